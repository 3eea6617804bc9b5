/** A test for each promise of the document: ordinary inputs, the edges that it names, and wrong inputs. */
public final class PromisesTest {
    private static final String MIN = "-2147483648";
    private static final String MAX = "2147483647";
    private static final String BOUNDS = " = throws IndexOutOfBoundsException";
    private static final String ARGUMENT = " = throws IllegalArgumentException";
    private static final String STATE = " = throws IllegalStateException";

    /** Call 0 from exchange 0 on circuit 0, at the end of each stage. */
    private static final String COMES_IN = "call(0, false) = 0; tick(2) = 1;";
    private static final String RINGS = COMES_IN + "accept(1, 0) = 0; tick(2) = 1;";
    private static final String TALKS = RINGS + "answer(1, 0) = 0; tick(2) = 1;";
    private static final String RESTS = TALKS + "suspend(1, 0) = 0; tick(2) = 1;";

    public static void main(String[] args) {
        promise1NewObject();
        promise2SetCircuits();
        promise3SetDelay();
        promise4SetFaulty();
        promise5LoseNext();
        promise6Call();
        promise7Accept();
        promise8Answer();
        promise9Suspend();
        promise10Resume();
        promise11Release();
        promise12Block();
        promise13Unblock();
        promise14Reset();
        promise15Tick();
        promise16Time();
        promise17End();
        promise18Calls();
        promise19CallValue();
        promise20Messages();
        promise21Message();
        promise22Choice();
        promise23Count();
        promise24Total();
        promise25Undo();
        promise26Digest();
        Script.finish();
    }

    /** Tries a method with every wrong exchange and circuit; the other arguments are right. */
    private static void wrongEnds(String title, String method, String stage) {
        TrunkGroup group = Script.run(title, stage);
        for (String exchange : new String[] {"-1", "2", MIN, MAX}) {
            Script.more(group, title, method + "(" + exchange + ", 0)" + BOUNDS);
        }
        for (String circuit : new String[] {"-1", "4", "12", MIN, MAX}) {
            Script.more(group, title, method + "(0, " + circuit + ")" + BOUNDS, method + "(1, " + circuit + ")" + BOUNDS);
        }
        Script.more(group, title, method + "(2, 4)" + BOUNDS);
    }

    /** Tries a method at one end in one stage, where it must throw, and sees that nothing changes. */
    private static void refused(String title, String stage, String call) {
        TrunkGroup group = Script.run(title, stage);
        String before = Script.answer(group, "digest");
        Script.more(group, title + " after " + stage, call + STATE);
        Script.expect(title + ": digest after a refusal", Script.answer(group, "digest"), before);
    }

    /** Sees that a call is undoable: undo brings back the digest, and there was one state more. */
    private static void undoable(String title, String stage, String call) {
        TrunkGroup group = Script.run(title, stage, "undo()", "time()");
        String before = Script.answer(group, "digest");
        String left = Script.answer(group, "undo");
        group = Script.run(title, stage, "undo()");
        Script.more(group, title, call, "undo() = " + (Integer.parseInt(left) + 1));
        Script.expect(title + ": digest after undo", Script.answer(group, "digest"), before);
    }

    private static void promise1NewObject() {
        TrunkGroup group = Script.run("1", "time() = 0; calls() = 0; messages() = 0; choice(0) = 0; choice(1) = 1",
            "count(0) = 4; count(1) = 0; count(2) = 0; count(3) = 0; count(4) = 0",
            "total(0) = 0; total(1) = 0; total(2) = 0; total(3) = 0; total(4) = 0",
            "undo()" + STATE, "end(0, 4, 0)" + BOUNDS, "callValue(0, 0)" + BOUNDS, "message(0, 0)" + BOUNDS);
        for (int exchange = 0; exchange < 2; exchange++) {
            for (int circuit = 0; circuit < 4; circuit++) {
                String end = "end(" + exchange + ", " + circuit + ", ";
                Script.more(group, "1", end + "0) = IDLE;" + end + "1) = NONE;" + end + "2) = 0;" + end + "3) = 0",
                    end + "4) = NOT_BLOCKED;" + end + "5) = 0;" + end + "6) = 0");
            }
        }
        Script.run("1", "setCircuits(4) = 4");
        Script.run("1", "setDelay(2) = 2");
        Script.run("1", "setFaulty(0, true) = false; setFaulty(3, true) = false");
        Script.run("1", "loseNext(0, 0) = 0; loseNext(1, 0) = 0");
    }

    private static void promise2SetCircuits() {
        Script.run("2", "setCircuits(12) = 4; end(1, 11, 0) = IDLE; end(0, 12, 0)" + BOUNDS + "; count(0) = 12",
            "setCircuits(1) = 12; end(1, 0, 0) = IDLE; end(0, 1, 0)" + BOUNDS + "; count(0) = 1; setCircuits(5) = 1",
            "setCircuits(0)" + ARGUMENT, "setCircuits(13)" + ARGUMENT, "setCircuits(-1)" + ARGUMENT,
            "setCircuits(" + MIN + ")" + ARGUMENT, "setCircuits(" + MAX + ")" + ARGUMENT, "count(0) = 5");
        Script.run("2 begins anew", "setDelay(5) = 2; setFaulty(1, true) = false; setFaulty(3, true) = false",
            "call(0, true) = 0; call(1, false) = 1; block(0, 2) = NOT_BLOCKED; block(1, 2) = NOT_BLOCKED; tick(6) = 4",
            "release(1, 1) = 1; reset(0, 3, 3) = 1; loseNext(0, 3) = 0; loseNext(1, 4) = 0; end(0, 2, 5) = 1",
            "setCircuits(4) = 4; time() = 0; calls() = 0; messages() = 0; count(0) = 4; count(4) = 0",
            "total(0) = 0; total(1) = 0; total(2) = 0; total(3) = 0; total(4) = 0; callValue(0, 0)" + BOUNDS,
            "end(0, 0, 1) = NONE; end(0, 0, 2) = 0; end(0, 2, 4) = 0; end(0, 2, 5) = 0; end(1, 0, 6) = 0",
            "choice(0) = 0; choice(1) = 1",
            "setDelay(5) = 5; setFaulty(1, false) = false; loseNext(0, 0) = 0; loseNext(1, 0) = 0; tick(50) = 0");
        Script.run("2 a glare and attempts are forgotten", "setCircuits(1); call(0, false); call(1, false); tick(40)",
            "setCircuits(1) = 1; total(2) = 0; total(3) = 0; total(4) = 0");
        undoable("2", TALKS, "setCircuits(3)");
        Script.run("2 undo", "call(0, false) = 0; tick(1) = 0; setCircuits(2) = 4; undo() = 2; calls() = 1; time() = 1",
            "messages() = 1; end(0, 3, 0) = IDLE");
    }

    private static void promise3SetDelay() {
        Script.run("3", "setDelay(20) = 2; setDelay(1) = 20; setDelay(0)" + ARGUMENT, "setDelay(21)" + ARGUMENT,
            "setDelay(-1)" + ARGUMENT, "setDelay(" + MIN + ")" + ARGUMENT, "setDelay(" + MAX + ")" + ARGUMENT,
            "setDelay(7) = 1");
        Script.run("3 the delay of the time of sending", "call(0, false) = 0; setDelay(20) = 2; call(0, false) = 1",
            "message(0, 0) = 2; message(1, 0) = 20; tick(2) = 1; tick(17) = 0; tick(1) = 1; end(1, 2, 0) = INCOMING");
        Script.run("3 the shortest delay", "setDelay(1) = 2; call(0, false) = 0; tick(1) = 1; end(1, 0, 0) = INCOMING");
        undoable("3", TALKS, "setDelay(9)");
        undoable("3 without a change", TALKS, "setDelay(2)");
    }

    private static void promise4SetFaulty() {
        Script.run("4", "setFaulty(0, true) = false; setFaulty(0, true) = true; setFaulty(0, false) = true",
            "setFaulty(0, false) = false; setFaulty(3, true) = false; setFaulty(4, true)" + BOUNDS,
            "setFaulty(-1, false)" + BOUNDS, "setFaulty(" + MIN + ", true)" + BOUNDS,
            "setFaulty(" + MAX + ", true)" + BOUNDS, "setCircuits(12) = 4; setFaulty(11, true) = false",
            "setFaulty(12, true)" + BOUNDS);
        Script.run("4 only a checked call sees it", "setFaulty(0, true) = false; call(0, false) = 0; tick(10) = 1",
            "end(0, 0, 0) = OUTGOING; callValue(0, 2) = 1");
        Script.run("4 what counts is the time of the check", "setFaulty(0, true) = false; call(0, true) = 0; tick(2) = 1",
            "setFaulty(0, false) = true; tick(1) = 0; end(0, 0, 0) = OUTGOING; end(0, 0, 2) = 30; end(0, 0, 6) = 0");
        undoable("4", TALKS, "setFaulty(2, true)");
        undoable("4 without a change", TALKS, "setFaulty(2, false)");
    }

    private static void promise5LoseNext() {
        Script.run("5", "loseNext(0, 100) = 0; loseNext(0, 7) = 100; loseNext(1, 3) = 0; loseNext(0, 0) = 7",
            "loseNext(1, 0) = 3; loseNext(0, 101)" + ARGUMENT, "loseNext(0, -1)" + ARGUMENT,
            "loseNext(1, " + MIN + ")" + ARGUMENT, "loseNext(1, " + MAX + ")" + ARGUMENT,
            "loseNext(2, 5)" + BOUNDS, "loseNext(-1, 5)" + BOUNDS, "loseNext(" + MIN + ", 5)" + BOUNDS,
            "loseNext(2, 101)" + BOUNDS, "loseNext(-1, -1)" + BOUNDS, "loseNext(0, 0) = 0; loseNext(1, 0) = 0");
        Script.run("5 the next ones of one exchange", "loseNext(0, 2) = 0; call(1, false) = 0; messages() = 1",
            "call(0, false) = 1; call(0, false) = 2; messages() = 1; total(0) = 3; total(1) = 2",
            "loseNext(0, 1) = 0; loseNext(0, 0) = 1; call(0, false) = 3; messages() = 2; message(1, 1) = 0",
            "total(1) = 2; tick(10) = 2; end(1, 0, 0) = IDLE; end(0, 1, 0) = INCOMING");
        undoable("5", TALKS, "loseNext(1, 9)");
        undoable("5 without a change", TALKS, "loseNext(1, 0)");
    }

    private static void promise6Call() {
        Script.run("6", "call(2, false)" + BOUNDS, "call(-1, true)" + BOUNDS, "call(" + MIN + ", true)" + BOUNDS,
            "call(" + MAX + ", true)" + BOUNDS, "calls() = 0");
        Script.run("6 the circuits of exchange 0", "call(0, false) = 0; call(0, false) = 1; call(0, false) = 2",
            "call(0, false) = 3; callValue(0, 1) = 0; callValue(1, 1) = 2; callValue(2, 1) = 3; callValue(3, 1) = 1",
            "call(0, false)" + STATE, "call(2, false)" + BOUNDS, "calls() = 4; total(4) = 4; total(0) = 4");
        Script.run("6 the circuits of exchange 1", "call(1, false) = 0; call(1, false) = 1; call(1, false) = 2",
            "call(1, false) = 3; callValue(0, 1) = 1; callValue(1, 1) = 3; callValue(2, 1) = 2; callValue(3, 1) = 0",
            "call(1, true)" + STATE);
        Script.run("6 without a check", "call(0, false) = 0; end(0, 0, 0) = OUTGOING; end(0, 0, 1) = 0; end(0, 0, 2) = 30",
            "end(0, 0, 6) = 0; callValue(0, 0) = 0; callValue(0, 2) = 1; callValue(0, 3) = SETTING_UP",
            "callValue(0, 4) = NONE; message(0, 1) = 0; message(0, 2) = 0; message(0, 3) = SEIZE; message(0, 4) = 0");
        Script.run("6 with a check", "call(1, true) = 0; end(1, 1, 0) = OUTGOING; end(1, 1, 1) = 0; end(1, 1, 2) = 3",
            "end(1, 1, 6) = 1; callValue(0, 0) = 1; message(0, 1) = 1; message(0, 2) = 1; message(0, 4) = 1");
        TrunkGroup group = Script.run("6 forty calls", "setDelay(1) = 2");
        for (int i = 0; i < 40; i++) {
            Script.more(group, "6 forty calls", "call(0, false) = " + i + "; release(0, 0) = " + i + "; tick(2) = 3");
        }
        Script.more(group, "6 forty calls", "calls() = 40; choice(0) = 0; call(0, false)" + STATE, "call(1, true)" + STATE,
            "call(2, true)" + BOUNDS, "setCircuits(4) = 4; call(0, false) = 0");
        undoable("6", TALKS, "call(1, true)");
        refused("6", "setCircuits(1); call(0, false)", "call(0, false)");
    }

    private static void promise7Accept() {
        Script.run("7", COMES_IN, "accept(1, 0) = 0; end(1, 0, 0) = RINGING; end(1, 0, 1) = 0; end(1, 0, 2) = 0",
            "messages() = 1; message(0, 1) = 1; message(0, 2) = 0; message(0, 3) = COMPLETE; message(0, 4) = 0",
            "callValue(0, 3) = SETTING_UP; tick(2) = 1; callValue(0, 3) = IN_RINGING");
        Script.run("7 the number of the call", "call(0, false) = 0; call(1, false) = 1; call(0, false) = 2; tick(2) = 3",
            "accept(1, 2) = 2; accept(0, 1) = 1; accept(1, 0) = 0");
        Script.run("7 after the check", "call(0, true) = 0; tick(4) = 1; accept(1, 0)" + STATE, "tick(1) = 1",
            "accept(1, 0) = 0; end(1, 0, 2) = 0");
        wrongEnds("7", "accept", COMES_IN);
        undoable("7", COMES_IN + "time(); setDelay(3)", "accept(1, 0)");
        refused("7 idle", "", "accept(1, 0)");
        refused("7 outgoing", COMES_IN, "accept(0, 0)");
        refused("7 ringing", RINGS, "accept(1, 0)");
        refused("7 talking", TALKS, "accept(1, 0)");
        refused("7 suspended", RESTS, "accept(1, 0)");
        refused("7 releasing", COMES_IN + "release(1, 0)", "accept(1, 0)");
        refused("7 resetting", COMES_IN + "reset(1, 0, 0)", "accept(1, 0)");
        refused("7 waiting", "call(0, true) = 0; tick(2) = 1", "accept(1, 0)");
    }

    private static void promise8Answer() {
        Script.run("8", RINGS, "answer(1, 0) = 0; end(1, 0, 0) = TALKING; end(1, 0, 1) = 0; end(1, 0, 2) = 0",
            "messages() = 1; message(0, 1) = 1; message(0, 2) = 0; message(0, 3) = ANSWER; message(0, 4) = 0",
            "callValue(0, 3) = IN_RINGING; tick(2) = 1; callValue(0, 3) = IN_TALKING; end(0, 0, 0) = TALKING");
        Script.run("8 the number of the call", "call(0, false) = 0; call(1, false) = 1; tick(2) = 2; accept(0, 1) = 1",
            "answer(0, 1) = 1");
        wrongEnds("8", "answer", RINGS);
        undoable("8", RINGS + "setDelay(3)", "answer(1, 0)");
        refused("8 idle", "", "answer(1, 0)");
        refused("8 incoming", COMES_IN, "answer(1, 0)");
        refused("8 outgoing", COMES_IN, "answer(0, 0)");
        refused("8 origin", RINGS, "answer(0, 0)");
        refused("8 talking", TALKS, "answer(1, 0)");
        refused("8 suspended", RESTS, "answer(1, 0)");
        refused("8 releasing", RINGS + "release(1, 0)", "answer(1, 0)");
        refused("8 resetting", RINGS + "reset(1, 0, 0)", "answer(1, 0)");
    }

    private static void promise9Suspend() {
        Script.run("9", TALKS, "suspend(1, 0) = 0; end(1, 0, 0) = SUSPENDED; end(1, 0, 1) = 0; end(1, 0, 2) = 0",
            "messages() = 1; message(0, 1) = 1; message(0, 2) = 0; message(0, 3) = SUSPEND; message(0, 4) = 0",
            "callValue(0, 3) = IN_TALKING; tick(2) = 1; callValue(0, 3) = IN_SUSPENSION; end(0, 0, 0) = SUSPENDED");
        wrongEnds("9", "suspend", TALKS);
        undoable("9", TALKS + "setDelay(3)", "suspend(1, 0)");
        refused("9 idle", "", "suspend(1, 0)");
        refused("9 incoming", COMES_IN, "suspend(1, 0)");
        refused("9 ringing", RINGS, "suspend(1, 0)");
        refused("9 origin", TALKS, "suspend(0, 0)");
        refused("9 suspended", RESTS, "suspend(1, 0)");
        refused("9 releasing", TALKS + "release(1, 0)", "suspend(1, 0)");
        refused("9 resetting", TALKS + "reset(1, 0, 0)", "suspend(1, 0)");
    }

    private static void promise10Resume() {
        Script.run("10", RESTS, "resume(1, 0) = 0; end(1, 0, 0) = TALKING; end(1, 0, 1) = 0; end(1, 0, 2) = 0",
            "messages() = 1; message(0, 1) = 1; message(0, 2) = 0; message(0, 3) = RESUME; message(0, 4) = 0",
            "callValue(0, 3) = IN_SUSPENSION; tick(2) = 1; callValue(0, 3) = IN_TALKING; end(0, 0, 0) = TALKING",
            "end(0, 0, 2) = 0; suspend(1, 0) = 0; resume(1, 0) = 0");
        wrongEnds("10", "resume", RESTS);
        undoable("10", RESTS + "setDelay(3)", "resume(1, 0)");
        refused("10 idle", "", "resume(1, 0)");
        refused("10 incoming", COMES_IN, "resume(1, 0)");
        refused("10 ringing", RINGS, "resume(1, 0)");
        refused("10 talking", TALKS, "resume(1, 0)");
        refused("10 origin", RESTS, "resume(0, 0)");
        refused("10 releasing", RESTS + "release(1, 0)", "resume(1, 0)");
        refused("10 resetting", RESTS + "reset(1, 0, 0)", "resume(1, 0)");
    }

    private static void promise11Release() {
        Script.run("11 by the origin", TALKS, "release(0, 0) = 0; end(0, 0, 0) = RELEASING; end(0, 0, 1) = NONE",
            "end(0, 0, 2) = 10; end(0, 0, 3) = 0; callValue(0, 3) = ENDED; callValue(0, 4) = NORMAL; messages() = 1",
            "message(0, 1) = 0; message(0, 2) = 0; message(0, 3) = RELEASE; message(0, 4) = NORMAL; tick(2) = 1",
            "end(1, 0, 0) = IDLE; message(0, 3) = RELEASED; message(0, 1) = 1; tick(2) = 1; end(0, 0, 0) = IDLE");
        Script.run("11 by the other end", TALKS, "release(1, 0) = 0; end(1, 0, 0) = RELEASING; callValue(0, 4) = NONE",
            "callValue(0, 3) = IN_TALKING; tick(2) = 1; callValue(0, 3) = ENDED; callValue(0, 4) = NORMAL");
        for (String stage : new String[] {COMES_IN, RINGS, TALKS, RESTS}) {
            Script.run("11 in every stage", stage, "release(0, 0) = 0; release(1, 0) = 0; count(3) = 1; tick(4) = 4; count(0) = 4");
        }
        Script.run("11 before the check", "call(0, true) = 0; release(0, 0) = 0; end(0, 0, 6) = 0; end(0, 0, 2) = 10");
        Script.run("11 while it waits", "call(0, true) = 0; tick(2) = 1; release(1, 0) = 0; end(1, 0, 6) = 0; end(1, 0, 2) = 10");
        wrongEnds("11", "release", TALKS);
        undoable("11", TALKS + "setDelay(3)", "release(1, 0)");
        refused("11 idle", "", "release(1, 0)");
        refused("11 releasing", TALKS + "release(0, 0)", "release(0, 0)");
        refused("11 resetting", TALKS + "reset(0, 0, 0)", "release(0, 0)");
    }

    private static void promise12Block() {
        TrunkGroup group = Script.run("12", TALKS, "block(1, 0) = NOT_BLOCKED; end(1, 0, 4) = BLOCKING; end(1, 0, 0) = TALKING",
            "messages() = 1; message(0, 1) = 1; message(0, 2) = 0; message(0, 3) = BLOCK; message(0, 4) = 0",
            "block(1, 0)" + STATE, "tick(2) = 1; end(0, 0, 5) = 1; end(1, 0, 4) = BLOCKING; message(0, 3) = BLOCK_DONE",
            "tick(2) = 1; end(1, 0, 4) = BLOCKED; end(0, 0, 0) = TALKING; count(1) = 1; block(1, 0)" + STATE,
            "unblock(1, 0) = BLOCKED; block(1, 0) = UNBLOCKING; end(1, 0, 4) = BLOCKING; messages() = 2");
        Script.more(group, "12 the other end has a block of its own", "block(0, 0) = NOT_BLOCKED");
        Script.run("12 repetition", "loseNext(0, 1) = 0; block(0, 3) = NOT_BLOCKED; tick(9) = 0; total(0) = 1",
            "tick(1) = 0; total(0) = 2; message(0, 3) = BLOCK; message(0, 1) = 0; message(0, 2) = 3; tick(2) = 1",
            "end(1, 3, 5) = 1; tick(2) = 1; end(0, 3, 4) = BLOCKED; tick(100) = 0; total(3) = 0");
        wrongEnds("12", "block", "");
        undoable("12", TALKS, "block(1, 0)");
        refused("12 blocking", "block(1, 0)", "block(1, 0)");
        refused("12 blocked", "block(1, 0) = 0; tick(4) = 2", "block(1, 0)");
    }

    private static void promise13Unblock() {
        Script.run("13", "block(1, 0) = 0; tick(4) = 2; unblock(1, 0) = BLOCKED; end(1, 0, 4) = UNBLOCKING; messages() = 1",
            "message(0, 1) = 1; message(0, 2) = 0; message(0, 3) = UNBLOCK; message(0, 4) = 0; unblock(1, 0)" + STATE,
            "tick(2) = 1; end(0, 0, 5) = 0; end(1, 0, 4) = UNBLOCKING; message(0, 3) = UNBLOCK_DONE; message(0, 1) = 0",
            "tick(2) = 1; end(1, 0, 4) = NOT_BLOCKED; unblock(1, 0)" + STATE);
        Script.run("13 too early", "block(1, 0) = 0; unblock(1, 0) = BLOCKING; tick(2) = 2; end(0, 0, 5) = 0; tick(2) = 2",
            "end(1, 0, 4) = NOT_BLOCKED");
        Script.run("13 repetition", "block(0, 2) = 0; tick(4) = 2; loseNext(1, 1) = 0; unblock(0, 2) = BLOCKED; tick(10) = 1",
            "end(0, 2, 4) = UNBLOCKING; message(0, 3) = UNBLOCK; messages() = 1; tick(4) = 2; end(0, 2, 4) = NOT_BLOCKED",
            "total(0) = 6; tick(50) = 0; total(3) = 0");
        wrongEnds("13", "unblock", "block(0, 0) = 0; block(1, 0) = 0");
        undoable("13", "block(1, 0) = 0; tick(4) = 2; setDelay(3)", "unblock(1, 0)");
        refused("13 not blocked", "", "unblock(1, 0)");
        refused("13 blocked by the other end", "block(0, 0) = 0; tick(4) = 2", "unblock(1, 0)");
        refused("13 unblocking", "block(1, 0) = 0; tick(4) = 2; unblock(1, 0) = 2", "unblock(1, 0)");
    }

    private static void promise14Reset() {
        Script.run("14", "call(0, false) = 0; call(0, false) = 1; tick(2) = 2; reset(0, 0, 2) = 1; messages() = 3",
            "message(0, 2) = 0; message(1, 2) = 1; message(2, 2) = 2; message(0, 3) = RESET; message(0, 4) = 0",
            "end(0, 0, 0) = RESETTING; end(0, 0, 1) = NONE; end(0, 0, 2) = 20; end(0, 0, 3) = 0; end(0, 3, 0) = IDLE",
            "callValue(0, 4) = RESETTING_CAUSE; callValue(1, 3) = ENDED; reset(0, 0, 3) = 1; messages() = 7",
            "tick(2) = 7; end(1, 0, 0) = IDLE; tick(2) = 7; count(0) = 4");
        Script.run("14 not the origin", COMES_IN, "reset(1, 0, 0) = 0; callValue(0, 4) = NONE; tick(2) = 1",
            "callValue(0, 4) = RESETTING_CAUSE; end(0, 0, 0) = IDLE");
        Script.run("14 all idle", "setCircuits(12) = 4; reset(1, 0, 11) = 12; reset(1, 11, 11) = 0; total(0) = 13");
        Script.run("14 releasing, then reset", "loseNext(0, 9) = 0; call(0, false) = 0; release(0, 0) = 0; tick(10) = 0",
            "end(0, 0, 3) = 1; reset(0, 0, 0) = 0; end(0, 0, 3) = 0; end(0, 0, 2) = 20; tick(5) = 0; reset(0, 0, 0) = 0",
            "end(0, 0, 2) = 20");
        Script.run("14 wrong inputs", "reset(2, 0, 0)" + BOUNDS, "reset(-1, 0, 0)" + BOUNDS, "reset(0, -1, 0)" + BOUNDS,
            "reset(0, 0, 4)" + BOUNDS, "reset(0, 1, 0)" + BOUNDS, "reset(1, 4, 4)" + BOUNDS, "reset(1, -2, -1)" + BOUNDS,
            "reset(0, " + MIN + ", 0)" + BOUNDS, "reset(0, 0, " + MAX + ")" + BOUNDS, "reset(" + MAX + ", 0, 0)" + BOUNDS,
            "reset(0, 3, " + MIN + ")" + BOUNDS, "total(0) = 0; reset(0, 0, 3) = 4");
        undoable("14", TALKS, "reset(0, 0, 3)");
    }

    private static void promise15Tick() {
        Script.run("15", "tick(0)" + ARGUMENT, "tick(-1)" + ARGUMENT, "tick(501)" + ARGUMENT, "tick(" + MIN + ")" + ARGUMENT,
            "tick(" + MAX + ")" + ARGUMENT, "time() = 0; tick(500) = 0; tick(1) = 0; time() = 501");
        Script.run("15 received messages count, also those that do nothing", "call(0, false) = 0; call(0, false) = 1",
            "setCircuits(4) = 4; tick(5) = 0; call(0, false) = 0; release(0, 0) = 0; tick(1) = 0; tick(1) = 2; tick(1) = 0",
            "tick(1) = 1");
        Script.run("15 the whole of a short life in one go", "call(0, false) = 0; tick(500) = 3; time() = 500; count(0) = 4",
            "callValue(0, 4) = TIMEOUT; total(3) = 1; total(0) = 3");
        undoable("15", TALKS, "tick(100)");
        Script.run("15 undo", "tick(3) = 0; tick(4) = 0; undo() = 1; time() = 3");
    }

    private static void promise16Time() {
        Script.run("16", "time() = 0; tick(7) = 0; time() = 7; call(0, false) = 0; time() = 7; tick(500) = 3; time() = 507",
            "undo() = 2; time() = 7; setCircuits(2) = 4; time() = 0; tick(0)" + ARGUMENT, "time() = 0");
    }

    private static void promise17End() {
        Script.run("17 wrong inputs", "end(0, 0, 7)" + ARGUMENT, "end(0, 0, -1)" + ARGUMENT, "end(1, 3, " + MIN + ")" + ARGUMENT,
            "end(1, 3, " + MAX + ")" + ARGUMENT, "end(2, 0, 0)" + BOUNDS, "end(-1, 0, 0)" + BOUNDS, "end(0, 4, 0)" + BOUNDS,
            "end(0, -1, 0)" + BOUNDS, "end(2, 0, 7)" + BOUNDS, "end(0, 4, -1)" + BOUNDS, "end(0, " + MIN + ", 9)" + BOUNDS,
            "end(" + MAX + ", 0, 0)" + BOUNDS, "end(1, " + MAX + ", 0)" + BOUNDS);
        Script.run("17", "call(0, true) = 0; end(0, 0, 0) = OUTGOING; end(0, 0, 1) = 0; end(0, 0, 2) = 3; end(0, 0, 6) = 1",
            "tick(2) = 1; end(1, 0, 0) = INCOMING; end(1, 0, 1) = 0; end(1, 0, 2) = 14; end(1, 0, 6) = 1; tick(1) = 0",
            "end(0, 0, 6) = 0; end(0, 0, 2) = 30; tick(2) = 1; end(1, 0, 6) = 0; end(1, 0, 2) = 0; end(0, 0, 2) = 28");
        Script.run("17 blocks", "block(0, 1) = 0; end(0, 1, 4) = 1; end(0, 1, 5) = 0; end(1, 1, 4) = 0; tick(2) = 1",
            "end(1, 1, 5) = 1; end(1, 1, 4) = 0; tick(2) = 1; end(0, 1, 4) = 2; unblock(0, 1) = 2; end(0, 1, 4) = 3");
        Script.run("17 repetitions", "loseNext(0, 5) = 0; call(0, false) = 0; release(0, 0) = 0; end(0, 0, 3) = 0; tick(10) = 0",
            "end(0, 0, 3) = 1; tick(10) = 0; end(0, 0, 3) = 2; tick(10) = 0; end(0, 0, 3) = 0; end(0, 0, 0) = RESETTING");
        Script.run("17 it waits no longer in another state", "call(0, true) = 0; reset(0, 0, 0) = 0; end(0, 0, 6) = 0");
    }

    private static void promise18Calls() {
        Script.run("18", "calls() = 0; call(0, false) = 0; calls() = 1; call(1, true) = 1; calls() = 2; release(0, 0) = 0",
            "tick(100); calls() = 2; call(2, false)" + BOUNDS, "calls() = 2; undo() = 2; undo() = 1; undo() = 0; calls() = 1",
            "setCircuits(3) = 4; calls() = 0");
    }

    private static void promise19CallValue() {
        Script.run("19 wrong inputs", "callValue(0, 0)" + BOUNDS, "callValue(0, 5)" + BOUNDS, "call(0, false) = 0",
            "callValue(0, 5)" + ARGUMENT, "callValue(0, -1)" + ARGUMENT, "callValue(0, " + MIN + ")" + ARGUMENT,
            "callValue(0, " + MAX + ")" + ARGUMENT, "callValue(1, 0)" + BOUNDS, "callValue(-1, 0)" + BOUNDS,
            "callValue(1, 5)" + BOUNDS, "callValue(-1, -1)" + BOUNDS, "callValue(" + MIN + ", 0)" + BOUNDS,
            "callValue(" + MAX + ", 0)" + BOUNDS, "callValue(39, 0)" + BOUNDS, "callValue(40, 0)" + BOUNDS);
        Script.run("19", "setFaulty(1, true) = false; call(1, true) = 0; callValue(0, 0) = 1; callValue(0, 1) = 1",
            "callValue(0, 2) = 1; callValue(0, 3) = 0; callValue(0, 4) = NONE; tick(3) = 1; callValue(0, 1) = 3",
            "callValue(0, 2) = 2; tick(5) = 3; accept(0, 3) = 0; tick(2) = 1; callValue(0, 3) = 1; answer(0, 3) = 0",
            "tick(2) = 1; callValue(0, 3) = 2; suspend(0, 3) = 0; tick(2) = 1; callValue(0, 3) = 3; callValue(0, 4) = NONE",
            "reset(1, 3, 3) = 0; callValue(0, 3) = 4; callValue(0, 4) = 5; callValue(0, 1) = 3; callValue(0, 0) = 1");
    }

    private static void promise20Messages() {
        Script.run("20", "messages() = 0; call(0, false) = 0; messages() = 1; call(1, false) = 1; messages() = 2; tick(1) = 0",
            "messages() = 2; loseNext(0, 1) = 0; call(0, false) = 2; messages() = 2; tick(1) = 2; messages() = 0",
            "release(1, 0) = 0; tick(2) = 1; messages() = 1; tick(2) = 1; messages() = 0");
    }

    private static void promise21Message() {
        Script.run("21 wrong inputs", "message(0, 0)" + BOUNDS, "message(0, 5)" + BOUNDS, "call(0, false) = 0",
            "message(0, 5)" + ARGUMENT, "message(0, -1)" + ARGUMENT, "message(0, " + MIN + ")" + ARGUMENT,
            "message(0, " + MAX + ")" + ARGUMENT, "message(1, 0)" + BOUNDS, "message(-1, 0)" + BOUNDS, "message(1, 5)" + BOUNDS,
            "message(" + MIN + ", 0)" + BOUNDS, "message(" + MAX + ", 9)" + BOUNDS);
        Script.run("21 the order of arrival", "setDelay(9) = 2; call(0, false) = 0; call(1, false) = 1; tick(2) = 0",
            "setDelay(3) = 9; call(0, true) = 2; setDelay(7) = 3; call(1, true) = 3; setDelay(3) = 7; block(0, 3) = 0",
            "messages() = 5; message(0, 0) = 3; message(0, 1) = 0; message(0, 2) = 2; message(0, 3) = SEIZE",
            "message(0, 4) = 1; message(1, 0) = 3; message(1, 2) = 3; message(1, 3) = BLOCK; message(1, 4) = 0",
            "message(2, 0) = 7; message(2, 1) = 0; message(2, 2) = 0; message(2, 4) = 0; message(3, 0) = 7",
            "message(3, 1) = 1; message(3, 2) = 1; message(4, 0) = 7; message(4, 1) = 1; message(4, 2) = 3; message(4, 4) = 1",
            "tick(3) = 2; messages() = 6; message(0, 0) = 3; message(0, 3) = BLOCK_DONE; message(0, 1) = 1; message(0, 2) = 3",
            "message(1, 0) = 3; message(1, 3) = CHECKED; message(1, 1) = 0; message(1, 2) = 2; message(2, 0) = 3",
            "message(2, 3) = CHECKED; message(2, 1) = 1; message(3, 0) = 4; message(3, 2) = 0; message(5, 2) = 3",
            "message(6, 0)" + BOUNDS, "tick(3) = 3; messages() = 3; message(0, 0) = 1; tick(1) = 3; messages() = 1",
            "message(0, 3) = RELEASE; message(0, 2) = 3; message(0, 4) = BLOCKAGE");
        Script.run("21 values", "call(0, true) = 0; message(0, 4) = 1; tick(3) = 1; message(0, 3) = CHECKED; message(0, 4) = 1",
            "tick(18) = 1; release(1, 0) = 0; message(0, 3) = RELEASE; message(0, 4) = NORMAL; setCircuits(4) = 4",
            "loseNext(0, 1) = 0; call(0, false) = 0; tick(30) = 0; message(0, 3) = RELEASE; message(0, 4) = TIMEOUT");
    }

    private static void promise22Choice() {
        Script.run("22", "choice(2)" + BOUNDS, "choice(-1)" + BOUNDS, "choice(" + MIN + ")" + BOUNDS, "choice(" + MAX + ")" + BOUNDS);
        Script.run("22 exchange 0", "setCircuits(5) = 4; choice(0) = 0; call(0, false) = 0; choice(0) = 2; call(0, false) = 1",
            "choice(0) = 4; call(0, false) = 2; choice(0) = 3; call(0, false) = 3; choice(0) = 1; call(0, false) = 4",
            "choice(0) = NONE; choice(1) = 1; calls() = 5");
        Script.run("22 exchange 1", "setCircuits(5) = 4; choice(1) = 1; call(1, false) = 0; choice(1) = 3; call(1, false) = 1",
            "choice(1) = 4; call(1, false) = 2; choice(1) = 2; call(1, false) = 3; choice(1) = 0; call(1, false) = 4",
            "choice(1) = NONE; undo() = 2; choice(1) = 0");
        Script.run("22 one circuit", "setCircuits(1) = 4; choice(0) = 0; choice(1) = 0");
        Script.run("22 blocks", "block(0, 0) = 0; choice(0) = 2; choice(1) = 1; block(1, 2) = 0; choice(0) = 2; tick(2) = 2",
            "choice(0) = 3; tick(2) = 2; choice(0) = 3; unblock(0, 0) = BLOCKED; choice(0) = 3; tick(2) = 1; choice(0) = 3",
            "tick(2) = 1; choice(0) = 0; unblock(1, 2) = BLOCKED; call(0, false) = 0; choice(0) = 3; tick(2) = 2; choice(0) = 2");
        Script.run("22 only idle ends", "call(0, false) = 0; tick(2) = 1; choice(1) = 1; release(0, 0) = 0; choice(0) = 2",
            "tick(4) = 2; choice(0) = 0; reset(0, 0, 0) = 1; choice(0) = 2");
    }

    private static void promise23Count() {
        Script.run("23", "count(5)" + ARGUMENT, "count(-1)" + ARGUMENT, "count(" + MIN + ")" + ARGUMENT, "count(" + MAX + ")" + ARGUMENT);
        Script.run("23 idle", "setCircuits(12) = 4; count(0) = 12; call(0, false) = 0; count(0) = 11; tick(2) = 1; count(0) = 11",
            "release(0, 0) = 0; tick(2) = 1; count(0) = 11; count(3) = 1; tick(2) = 1; count(0) = 12; count(3) = 0");
        Script.run("23 talking", TALKS, "count(1) = 1; suspend(1, 0) = 0; count(1) = 0; tick(2) = 1; count(1) = 0; resume(1, 0) = 0",
            "count(1) = 0; tick(2) = 1; count(1) = 1; count(2) = 0; release(1, 0) = 0; count(1) = 0");
        Script.run("23 talking at one end", RINGS, "answer(1, 0) = 0; count(1) = 0");
        Script.run("23 two calls", "setCircuits(2) = 4; call(0, false) = 0; call(1, false) = 1; count(2) = 0; call(1, false) = 2",
            "count(2) = 1; call(0, false) = 3; count(2) = 2; tick(2) = 4; count(2) = 0; release(0, 0) = 0; count(2) = 0");
        Script.run("23 clearing", "reset(0, 1, 2) = 2; count(3) = 2; reset(1, 2, 3) = 2; count(3) = 3; count(0) = 1; tick(4) = 8",
            "count(3) = 0; count(0) = 4");
        Script.run("23 blocks", "block(0, 1) = 0; count(4) = 1; block(1, 1) = 0; count(4) = 1; block(1, 2) = 0; count(4) = 2",
            "tick(4) = 6; count(4) = 2; unblock(1, 2) = 2; count(4) = 2; tick(4) = 2; count(4) = 1; unblock(0, 1) = 2",
            "tick(4) = 2; count(4) = 1; count(0) = 4");
        talkingWithTwoCalls();
    }

    /** Both ends of circuit 0 talk, but each with another call: a late RELEASE had freed one end alone. */
    private static void talkingWithTwoCalls() {
        Script.run("23 talking with two calls", "setCircuits(2) = 4; setDelay(6) = 2; call(0, false) = 0; release(0, 0) = 0",
            "tick(12) = 3; end(0, 0, 0) = IDLE; messages() = 1; message(0, 3) = RELEASE; message(0, 0) = 4",
            "setDelay(1) = 6; call(0, false) = 1; tick(1) = 1; accept(1, 0) = 1; answer(1, 0) = 1; tick(1) = 2; count(1) = 1",
            "tick(2) = 1; end(1, 0, 0) = IDLE; end(0, 0, 0) = TALKING; count(1) = 0; count(2) = 0",
            "call(1, false) = 2; call(1, false) = 3; callValue(3, 1) = 0; count(2) = 1; tick(1) = 3; count(2) = 0",
            "callValue(1, 4) = LOST; end(0, 0, 0) = INCOMING; end(0, 0, 1) = 3");
    }

    private static void promise24Total() {
        Script.run("24", "total(5)" + ARGUMENT, "total(-1)" + ARGUMENT, "total(" + MIN + ")" + ARGUMENT, "total(" + MAX + ")" + ARGUMENT);
        Script.run("24 messages", "loseNext(0, 1) = 0; call(0, false) = 0; total(0) = 1; total(1) = 1; call(0, false) = 1",
            "total(0) = 2; total(1) = 1; tick(2) = 1; release(1, 2) = 1; total(0) = 3; tick(2) = 1; total(0) = 4; tick(2) = 1",
            "total(0) = 4; total(1) = 1");
        Script.run("24 glares", "setCircuits(1) = 4; call(0, false) = 0; call(1, false) = 1; total(2) = 0; tick(2) = 2",
            "total(2) = 2; tick(200); total(2) = 2");
        Script.run("24 timers", "block(0, 3) = 0; loseNext(0, 100) = 0; tick(15); total(3) = 0; call(0, true) = 0; tick(2)",
            "total(3) = 0; tick(1); total(3) = 1; tick(29); total(3) = 1; tick(1); total(3) = 2; tick(10); total(3) = 3");
        Script.run("24 attempts", "setFaulty(0, true) = false; setFaulty(2, true) = false; setFaulty(3, true) = false",
            "call(0, true) = 0; total(4) = 1; tick(3) = 1; total(4) = 2; tick(500); total(4) = 3; call(0, true) = 1; total(4) = 4",
            "undo() = 2; total(4) = 3; setCircuits(4) = 4; total(4) = 0");
    }

    private static void promise25Undo() {
        Script.run("25", "undo()" + STATE, "setDelay(3) = 2; undo() = 0; undo()" + STATE, "setDelay(4) = 2");
        Script.run("25 three states", "setDelay(3) = 2; setDelay(4) = 3; setDelay(5) = 4; setDelay(6) = 5; setDelay(7) = 6",
            "undo() = 2; undo() = 1; undo() = 0; undo()" + STATE, "setDelay(9) = 4; undo() = 0; setDelay(9) = 4");
        Script.run("25 no redo, and again", "setDelay(3); setDelay(4); undo() = 1; setDelay(8) = 3; undo() = 1; setDelay(9) = 3",
            "undo() = 1; undo() = 0; setDelay(2) = 2");
        Script.run("25 what is not undoable saves nothing", "tick(1); time(); end(0, 0, 0); calls(); messages(); choice(0)",
            "count(0); total(0); digest(); undo() = 0; undo()" + STATE, "time() = 0");
        Script.run("25 what throws saves nothing", "tick(1); tick(0)" + ARGUMENT, "setCircuits(0)" + ARGUMENT,
            "setDelay(0)" + ARGUMENT, "setFaulty(9, true)" + BOUNDS, "loseNext(0, 101)" + ARGUMENT, "call(5, true)" + BOUNDS,
            "accept(0, 0)" + STATE, "answer(0, 0)" + STATE, "suspend(0, 0)" + STATE, "resume(0, 0)" + STATE,
            "release(0, 0)" + STATE, "unblock(0, 0)" + STATE, "reset(0, 1, 0)" + BOUNDS, "undo() = 0; undo()" + STATE);
        Script.run("25 the whole state", TALKS, "block(0, 0); setFaulty(2, true); loseNext(1, 5); undo() = 2; undo() = 1",
            "undo() = 0; end(0, 0, 4) = NOT_BLOCKED; messages() = 0; total(0) = 3; setFaulty(2, false) = false; loseNext(1, 0) = 0");
        Script.run("25 the messages and timers come back", "call(0, true) = 0; tick(1) = 0; tick(1) = 1; tick(500); undo() = 2",
            "end(1, 0, 2) = 14; undo() = 1; messages() = 1; message(0, 0) = 1; end(0, 0, 2) = 2; undo() = 0; message(0, 0) = 2",
            "end(0, 0, 2) = 3; tick(2) = 1; end(1, 0, 6) = 1");
    }

    private static void promise26Digest() {
        TrunkGroup group = new TrunkGroup();
        boolean[] sound = new boolean[4];
        boolean[] oneFaulty = {false, false, true, false};
        digestIs("26 new", group, DigestTold.of(group, 0, 2, new int[] {0, 0}, sound, new int[8]));
        Script.more(group, "26", "setDelay(3); setFaulty(2, true); loseNext(1, 4); call(0, true); block(1, 1)");
        int[] timers = {0, 0, 0, 10, 0, 0, 0, 0};
        digestIs("26 on the way", group, DigestTold.of(group, 3, 3, new int[] {0, 3}, oneFaulty, timers));
        Script.more(group, "26", "call(1, true) = 1; call(1, false) = 2; loseNext(0, 9) = 0; loseNext(0, 0) = 9; setDelay(9)",
            "tick(3) = 1; unblock(1, 1) = BLOCKING; call(0, true) = 3; tick(4) = 0; callValue(3, 1) = 3; callValue(3, 2) = 2");
        timers[3] = 6;
        digestIs("26 later", group, DigestTold.of(group, 3, 9, new int[] {0, 0}, oneFaulty, timers));
        Script.more(group, "26", "reset(0, 1, 2) = 2; tick(11); undo() = 2");
        digestIs("26 after undo", group, DigestTold.of(group, 2, 9, new int[] {0, 0}, oneFaulty, timers));
        Script.more(group, "26", "setCircuits(12) = 4; loseNext(0, 77) = 0; call(1, true) = 0");
        digestIs("26 twelve", group, DigestTold.of(group, 3, 9, new int[] {77, 0}, new boolean[12], new int[24]));
        blockTimersCount();
    }

    private static void digestIs(String title, TrunkGroup group, long want) {
        Script.expect(title, group.digest(), want);
        Script.expect(title + ", asked again", group.digest(), want);
    }

    /** The block timer can be seen in the digest alone. */
    private static void blockTimersCount() {
        TrunkGroup group = Script.run("26 block timer", "setCircuits(1); loseNext(0, 100); block(0, 0)");
        for (int timer = 10; timer >= 1; timer--) {
            digestIs("26 block timer " + timer, group,
                DigestTold.of(group, 3, 2, new int[] {99, 0}, new boolean[1], new int[] {timer, 0}));
            Script.more(group, "26 block timer", "tick(1) = 0");
        }
        digestIs("26 block timer, on again", group,
            DigestTold.of(group, 3, 2, new int[] {98, 0}, new boolean[1], new int[] {10, 0}));
        Script.more(group, "26 block timer", "loseNext(0, 0) = 98; tick(14) = 2; end(0, 0, 4) = BLOCKED");
        digestIs("26 block timer, off", group,
            DigestTold.of(group, 3, 2, new int[] {0, 0}, new boolean[1], new int[] {0, 0}));
    }
}
