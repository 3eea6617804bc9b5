import java.util.EnumSet;
import java.util.Set;

/**
 * What each message does at an end in each stage, and above all where it does nothing. There is one circuit; a message
 * is sent with the delay 20, both ends become idle again, the end is brought to a stage, and then the message arrives.
 */
public final class MessagesBoundaryTest {
    private static final String SLOW = "setDelay(20);";
    private static final String FAST = "setDelay(1);";

    /*
     * Calls that leave both ends idle, with one message on its way from exchange o to exchange e. The sign @ stands
     * before the call that sends it, so that the same run can be made with this message lost.
     */
    private static final String SEIZE = SLOW + "@call(o, false);" + FAST + "release(o, 0); tick(2);";
    private static final String SEIZE_TO_CHECK = SLOW + "@call(o, true);" + FAST + "release(o, 0); tick(2);";
    private static final String CHECKED_GOOD = "call(o, true); tick(2);" + SLOW + "@tick(1);" + FAST + "release(o, 0); tick(2);";
    private static final String CHECKED_BAD = "setFaulty(0, true); call(o, true); tick(2);" + SLOW + "@tick(1);" + FAST
        + "release(e, 0); setFaulty(0, false); tick(2);";
    private static final String COMPLETE = "call(e, false); tick(1);" + SLOW + "@accept(o, 0);" + FAST + "release(e, 0); tick(2);";
    private static final String ANSWER = "call(e, false); tick(1); accept(o, 0);" + SLOW + "@answer(o, 0);" + FAST
        + "release(e, 0); tick(2);";
    private static final String SUSPEND = "call(e, false); tick(1); accept(o, 0); answer(o, 0);" + SLOW + "@suspend(o, 0);" + FAST
        + "release(e, 0); tick(2);";
    private static final String RESUME = "call(e, false); tick(1); accept(o, 0); answer(o, 0); suspend(o, 0);" + SLOW
        + "@resume(o, 0);" + FAST + "release(e, 0); tick(2);";
    private static final String RELEASE = "call(o, false);" + SLOW + "@release(o, 0);" + FAST + "reset(o, 0, 0); tick(2);";
    private static final String RELEASE_BLOCKAGE = "loseNext(o, 1); block(o, 0); call(e, false);" + SLOW + "@tick(1);" + FAST
        + "unblock(o, 0); reset(o, 0, 0); tick(2);";
    private static final String RELEASED = "call(e, false); release(e, 0);" + SLOW + "@tick(1);" + FAST + "reset(e, 0, 0); tick(2);";
    private static final String BLOCK = SLOW + "@block(o, 0);" + FAST + "unblock(o, 0); tick(2);";
    private static final String UNBLOCK = "block(o, 0); tick(2);" + SLOW + "@unblock(o, 0);" + FAST + "block(o, 0); tick(2);"
        + "unblock(o, 0); tick(2);";
    private static final String BLOCK_DONE = "block(e, 0);" + SLOW + "@tick(1);" + FAST + "unblock(e, 0); tick(2);";
    private static final String UNBLOCK_DONE = "block(e, 0); tick(2); unblock(e, 0);" + SLOW + "@tick(1);" + FAST
        + "block(e, 0); tick(2); unblock(e, 0); tick(2);";
    private static final String RESET = SLOW + "@reset(o, 0, 0);" + FAST + "reset(o, 0, 0); tick(2);";
    private static final String RESET_DONE = "reset(e, 0, 0);" + SLOW + "@tick(1);" + FAST + "reset(e, 0, 0); tick(2);";

    /** The local blocks, each with the calls that lead there without a message that arrives. */
    private static final String[] LOCAL_BLOCKS = {"", "loseNext(e, 1); block(e, 0);", "block(e, 0); tick(2);",
        "loseNext(e, 2); block(e, 0); unblock(e, 0);"};
    private static final int[] LOCAL_BLOCK_TICKS = {0, 0, 2, 0};
    private static final int BLOCKED = 2;

    private static final String OTHERWISE = "In all other cases a message does nothing";

    private static final Set<Stages> OUTGOING = EnumSet.of(Stages.OUTGOING, Stages.BEFORE_CHECK);
    private static final Set<Stages> CLEARING = EnumSet.of(Stages.RELEASING, Stages.RESETTING);

    public static void main(String[] args) {
        for (int exchange = 0; exchange < 2; exchange++) {
            seizeWithGlare(exchange);
            seizeAtClearingEnd(exchange);
            seizeAtBlockedEnd(exchange);
            seizeOtherwise(exchange);
            checked(exchange);
            progress(exchange);
            release(exchange);
            blockAndUnblock(exchange);
            answersToBlocks(exchange);
            reset(exchange);
            answersToClearing(exchange);
        }
        Boundary.finish();
    }

    // ---- how a run is made

    /** The run up to the tick before the message arrives, the end of this exchange having come to a stage. */
    private static TrunkGroup justBefore(String message, boolean lost, int exchange, String way, int ticks) {
        TrunkGroup sent = Boundary.run(Stages.ONE_CIRCUIT, Stages.of(message.replace("@", ""), exchange));
        Boundary.more(sent, "messages() = 1; message(0, 1) = " + (1 - exchange), "count(0) = 1; count(4) = 0; choice(0) = 0; choice(1) = 0");
        int pause = sent.message(0, 0) - ticks - 1;
        TrunkGroup group = sent;
        if (lost) {
            group = Boundary.run(Stages.ONE_CIRCUIT, Stages.of(message.replace("@", "loseNext(o, 1);"), exchange));
            Boundary.more(group, "messages() = 0; loseNext(0, 0) = 0; loseNext(1, 0) = 0");
        }
        Boundary.more(group, "tick(" + pause + ") = 0", Stages.of(way, exchange));
        return group;
    }

    /** The run with the message, just after its arrival. */
    private static TrunkGroup arrived(String message, int exchange, String way, int ticks) {
        TrunkGroup group = justBefore(message, false, exchange, way, ticks);
        Boundary.more(group, "messages() = 1; tick(1) = 1");
        return group;
    }

    /** The same run at the same time, in which the message was lost. */
    private static TrunkGroup unarrived(String message, int exchange, String way, int ticks) {
        TrunkGroup group = justBefore(message, true, exchange, way, ticks);
        Boundary.more(group, "messages() = 0; tick(1) = 0");
        return group;
    }

    private static TrunkGroup arrived(String message, int exchange, Stages stage) {
        return arrived(message, exchange, stage.at(exchange), stage.ticks);
    }

    /** The way to BLOCKED takes so long that a check would be done meanwhile. */
    private static boolean fits(Stages stage, int block) {
        return block != BLOCKED || stage != Stages.BEFORE_CHECK && stage != Stages.WAITING;
    }

    /** Calls in which e and o are the exchanges and c is the newest call. */
    private static void check(TrunkGroup group, int exchange, String lines) {
        Boundary.more(group, Stages.of(lines, exchange).replaceAll("\\bc\\b", Integer.toString(group.calls() - 1)));
    }

    /** The message changes nothing, neither at once nor later, but that it is counted as a glare, if it is one. */
    private static void doesNothing(String message, int exchange, String way, int ticks, int glares) {
        TrunkGroup group = arrived(message, exchange, way, ticks);
        TrunkGroup without = unarrived(message, exchange, way, ticks);
        for (int i = 0; i < 30; i++) {
            Boundary.expect(message + " at " + way + ", " + i + " ticks later", answers(group), answers(without));
            Boundary.expect(message + " at " + way + ", glares", group.total(2), without.total(2) + glares);
            Boundary.expect("messages received", group.tick(1), without.tick(1));
        }
    }

    private static void doesNothing(String message, int exchange, Stages stage) {
        doesNothing(message, exchange, stage.at(exchange), stage.ticks, 0);
    }

    private static void doesNothingBut(String message, int exchange, Set<Stages> acts) {
        Boundary.sentence(OTHERWISE);
        for (Stages stage : Stages.values()) {
            if (!acts.contains(stage)) {
                doesNothing(message, exchange, stage);
            }
        }
    }

    /** All that two runs have in common if they differ by a message that was lost. */
    private static String answers(TrunkGroup group) {
        StringBuilder answers = new StringBuilder();
        for (int exchange = 0; exchange < 2; exchange++) {
            for (int what = 0; what <= 6; what++) {
                answers.append(group.end(exchange, 0, what)).append(' ');
            }
            answers.append(group.choice(exchange)).append("; ");
        }
        for (int call = 0; call < group.calls(); call++) {
            for (int what = 0; what <= 4; what++) {
                answers.append(group.callValue(call, what)).append(' ');
            }
        }
        answers.append("; ").append(group.messages()).append(' ');
        for (int what : new int[] {0, 3, 4}) {
            answers.append(group.total(what)).append(' ');
        }
        return answers.toString();
    }

    // ---- SEIZE

    private static void seizeWithGlare(int exchange) {
        if (exchange == 0) {
            Boundary.sentence("SEIZE: (1) If the end is OUTGOING: if its exchange controls the circuit, nothing happens");
            for (Stages stage : OUTGOING) {
                for (int block = 0; block < LOCAL_BLOCKS.length; block++) {
                    if (fits(stage, block)) {
                        String way = stage.at(0) + Stages.of(LOCAL_BLOCKS[block], 0);
                        int ticks = stage.ticks + LOCAL_BLOCK_TICKS[block];
                        doesNothing(SEIZE, 0, way, ticks, 1);
                        doesNothing(SEIZE_TO_CHECK, 0, way, ticks, 1);
                    }
                }
            }
            return;
        }
        Boundary.sentence("otherwise the end loses its own call, what follows is done, and then its own call tries again with the"
            + " cause GLARE");
        for (Stages stage : OUTGOING) {
            String lost = "callValue(c, 3) = ENDED; callValue(c, 4) = GLARE; total(2) = 1; callValue(0, 4) = NORMAL;";
            check(arrived(SEIZE, 1, stage), 1, lost + "end(e, 0, 0) = INCOMING; end(e, 0, 1) = 0; end(e, 0, 2) = 0; end(e, 0, 6) = 0");
            check(arrived(SEIZE_TO_CHECK, 1, stage), 1, lost + "end(e, 0, 0) = INCOMING; end(e, 0, 1) = 0; end(e, 0, 2) = 14; end(e, 0, 6) = 1");
            check(arrived(SEIZE, 1, stage.at(1) + LOCAL_BLOCKS[1], stage.ticks), 1, lost + "end(e, 0, 0) = RELEASING; end(e, 0, 1) = NONE;"
                + "end(e, 0, 2) = 9; end(e, 0, 6) = 0; messages() = 1; message(0, 3) = RELEASE; message(0, 4) = BLOCKAGE");
        }
        // It loses no call but its own.
        Boundary.run("setCircuits(2); setDelay(1); call(1, false) = 0; call(1, false) = 1; call(0, false) = 2; tick(1); end(1, 0, 0) = INCOMING",
            "callValue(0, 4) = NONE; callValue(1, 4) = GLARE; callValue(2, 4) = NONE");
    }

    private static void seizeAtClearingEnd(int exchange) {
        Boundary.sentence("SEIZE: (2) If the end is RELEASING or RESETTING, nothing happens");
        for (Stages stage : CLEARING) {
            for (int block = 0; block < LOCAL_BLOCKS.length; block++) {
                String way = stage.at(exchange) + Stages.of(LOCAL_BLOCKS[block], exchange);
                int ticks = stage.ticks + LOCAL_BLOCK_TICKS[block];
                doesNothing(SEIZE, exchange, way, ticks, 0);
                doesNothing(SEIZE_TO_CHECK, exchange, way, ticks, 0);
            }
        }
    }

    /** What becomes of the call that the end had before a SEIZE: it is lost if the end is its origin. */
    private static String formerCall(Stages stage) {
        if (!stage.hasCall()) {
            return "callValue(c, 4) = NORMAL; total(2) = 0;";
        }
        return stage.origin ? "callValue(c, 3) = ENDED; callValue(c, 4) = LOST; total(2) = 0;" : "callValue(c, 4) = NONE; total(2) = 0;";
    }

    private static void seizeAtBlockedEnd(int exchange) {
        Boundary.sentence("SEIZE: (3) Otherwise, if the local block is BLOCKING or BLOCKED, RELEASE with the value BLOCKAGE is sent,"
            + " and the end becomes RELEASING with the timer 10 and without call");
        for (Stages stage : EnumSet.complementOf(EnumSet.copyOf(CLEARING))) {
            if (OUTGOING.contains(stage)) {
                continue;
            }
            for (int block = 1; block <= BLOCKED; block++) {
                if (!fits(stage, block)) {
                    continue;
                }
                String way = stage.at(exchange) + LOCAL_BLOCKS[block];
                TrunkGroup group = arrived(SEIZE, exchange, way, stage.ticks + LOCAL_BLOCK_TICKS[block]);
                check(group, exchange, formerCall(stage) + "end(e, 0, 0) = RELEASING; end(e, 0, 1) = NONE; end(e, 0, 2) = 9;"
                    + "end(e, 0, 3) = 0; end(e, 0, 6) = 0; messages() = 1; message(0, 1) = e; message(0, 3) = RELEASE;"
                    + "message(0, 4) = BLOCKAGE");
                Boundary.expect("the local block", group.end(exchange, 0, 4), block);
            }
        }
    }

    private static void seizeOtherwise(int exchange) {
        Boundary.sentence("SEIZE: (4) Otherwise the end is seized");
        for (Stages stage : EnumSet.complementOf(EnumSet.copyOf(CLEARING))) {
            if (OUTGOING.contains(stage)) {
                continue;
            }
            for (int block = 0; block < LOCAL_BLOCKS.length; block += 3) {
                String way = stage.at(exchange) + LOCAL_BLOCKS[block];
                String seized = formerCall(stage) + "end(e, 0, 0) = INCOMING; end(e, 0, 1) = 0; end(e, 0, 3) = 0; messages() = 0;"
                    + "end(e, 0, 4) = " + block + ";";
                check(arrived(SEIZE, exchange, way, stage.ticks), exchange, seized + "end(e, 0, 2) = 0; end(e, 0, 6) = 0; accept(e, 0) = 0");
                check(arrived(SEIZE_TO_CHECK, exchange, way, stage.ticks), exchange,
                    seized + "end(e, 0, 2) = 14; end(e, 0, 6) = 1; accept(e, 0) = throws IllegalStateException");
            }
        }
    }

    // ---- from CHECKED to RESUME

    private static void checked(int exchange) {
        Boundary.sentence("CHECKED, if the end is INCOMING and waits for it");
        check(arrived(CHECKED_GOOD, exchange, Stages.WAITING), exchange,
            "end(e, 0, 0) = INCOMING; end(e, 0, 1) = c; end(e, 0, 2) = 0; end(e, 0, 6) = 0; messages() = 0; accept(e, 0) = c");
        check(arrived(CHECKED_BAD, exchange, Stages.WAITING), exchange, "end(e, 0, 0) = IDLE; end(e, 0, 1) = NONE; end(e, 0, 2) = 0;"
            + "end(e, 0, 6) = 0; messages() = 0; callValue(c, 3) = SETTING_UP; callValue(c, 4) = NONE");
        doesNothingBut(CHECKED_GOOD, exchange, EnumSet.of(Stages.WAITING));
        doesNothingBut(CHECKED_BAD, exchange, EnumSet.of(Stages.WAITING));
    }

    private static void progress(int exchange) {
        String at = "end(e, 0, 1) = c; end(e, 0, 6) = 0; messages() = 0; callValue(c, 4) = NONE;";
        Boundary.sentence("COMPLETE, if the end is OUTGOING");
        for (Stages stage : OUTGOING) {
            check(arrived(COMPLETE, exchange, stage), exchange, at + "end(e, 0, 0) = RINGING; end(e, 0, 2) = 59; callValue(c, 3) = IN_RINGING");
        }
        doesNothingBut(COMPLETE, exchange, OUTGOING);
        Boundary.sentence("ANSWER, if the end is the origin of its call and OUTGOING or RINGING");
        Set<Stages> answered = EnumSet.of(Stages.OUTGOING, Stages.BEFORE_CHECK, Stages.RINGING_ORIGIN);
        for (Stages stage : answered) {
            check(arrived(ANSWER, exchange, stage), exchange, at + "end(e, 0, 0) = TALKING; end(e, 0, 2) = 0; callValue(c, 3) = IN_TALKING");
        }
        doesNothingBut(ANSWER, exchange, answered);
        Boundary.sentence("SUSPEND, if the end is the origin of its call and TALKING");
        check(arrived(SUSPEND, exchange, Stages.TALKING_ORIGIN), exchange,
            at + "end(e, 0, 0) = SUSPENDED; end(e, 0, 2) = 39; callValue(c, 3) = IN_SUSPENSION");
        doesNothingBut(SUSPEND, exchange, EnumSet.of(Stages.TALKING_ORIGIN));
        Boundary.sentence("RESUME, if the end is the origin of its call and SUSPENDED");
        check(arrived(RESUME, exchange, Stages.SUSPENDED_ORIGIN), exchange,
            at + "end(e, 0, 0) = TALKING; end(e, 0, 2) = 0; callValue(c, 3) = IN_TALKING");
        doesNothingBut(RESUME, exchange, EnumSet.of(Stages.SUSPENDED_ORIGIN));
    }

    // ---- RELEASE, RELEASED, RESET_DONE

    private static void release(int exchange) {
        Boundary.sentence("RELEASE: RELEASED is sent; if the end is not RELEASING or RESETTING, it becomes IDLE; if it was the origin of"
            + " its call, the call tries again with the cause BLOCKAGE if that is the value, and otherwise ends with the value as its cause");
        String answer = "messages() = 1; message(0, 1) = e; message(0, 3) = RELEASED; message(0, 4) = 0;";
        for (Stages stage : Stages.values()) {
            String state = CLEARING.contains(stage) ? "end(e, 0, 0) = " + stage.state + ";"
                : "end(e, 0, 0) = IDLE; end(e, 0, 1) = NONE; end(e, 0, 2) = 0; end(e, 0, 3) = 0; end(e, 0, 6) = 0;";
            String normal = stage.origin ? "callValue(c, 3) = ENDED; callValue(c, 4) = NORMAL" : stage.hasCall() ? "callValue(c, 4) = NONE" : "";
            check(arrived(RELEASE, exchange, stage), exchange, answer + state + normal);
            String blockage = stage.origin ? "callValue(c, 3) = ENDED; callValue(c, 4) = BLOCKAGE; callValue(c, 2) = 1" : normal;
            check(arrived(RELEASE_BLOCKAGE, exchange, stage), exchange, answer + state + blockage);
        }
        check(arrived(RELEASE, exchange, Stages.RELEASING), exchange, "end(e, 0, 2) = 9; end(e, 0, 3) = 0");
        check(arrived(RELEASE, exchange, Stages.RESETTING), exchange, "end(e, 0, 2) = 19; end(e, 0, 3) = 0");
    }

    private static void answersToClearing(int exchange) {
        String idle = "end(e, 0, 0) = IDLE; end(e, 0, 1) = NONE; end(e, 0, 2) = 0; end(e, 0, 3) = 0; messages() = 0; choice(e) = 0";
        Boundary.sentence("RELEASED, if the end is RELEASING: it becomes IDLE");
        check(arrived(RELEASED, exchange, Stages.RELEASING), exchange, idle);
        check(arrived(RELEASED, exchange, Stages.RELEASING.at(exchange) + "loseNext(e, 1); tick(10);", 10), exchange, idle);
        doesNothingBut(RELEASED, exchange, EnumSet.of(Stages.RELEASING));
        Boundary.sentence("RESET_DONE, if the end is RESETTING: it becomes IDLE");
        check(arrived(RESET_DONE, exchange, Stages.RESETTING), exchange, idle);
        doesNothingBut(RESET_DONE, exchange, EnumSet.of(Stages.RESETTING));
    }

    // ---- blocks

    private static void blockAndUnblock(int exchange) {
        Boundary.sentence("BLOCK: the remote block is on, and BLOCK_DONE is sent. UNBLOCK: the remote block is off, and UNBLOCK_DONE is"
            + " sent");
        for (Stages stage : Stages.values()) {
            remoteBlock(BLOCK, exchange, stage.at(exchange), stage.ticks, 1);
            remoteBlock(UNBLOCK, exchange, stage.at(exchange), stage.ticks, 0);
            // The end has the remote block on when UNBLOCK comes; the answer to BLOCK is lost, so that it stands alone.
            String blocked = stage.at(exchange) + "block(o, 0); loseNext(e, 1); tick(1);";
            remoteBlock(BLOCK, exchange, blocked, stage.ticks + 1, 1);
            remoteBlock(UNBLOCK, exchange, blocked, stage.ticks + 1, 0);
        }
    }

    private static void remoteBlock(String message, int exchange, String way, int ticks, int on) {
        TrunkGroup group = arrived(message, exchange, way, ticks);
        TrunkGroup without = unarrived(message, exchange, way, ticks);
        check(group, exchange, "end(e, 0, 5) = " + on);
        String kind = on == 1 ? "BLOCK_DONE" : "UNBLOCK_DONE";
        int last = group.messages() - 1;
        // If the end was to be checked in this tick, CHECKED is sent behind it.
        int place = last - without.messages();
        check(group, exchange, "message(" + place + ", 1) = e; message(" + place + ", 3) = " + kind + "; message(" + place + ", 4) = 0");
        Boundary.expect("messages sent", group.total(0), without.total(0) + 1);
        for (int what = 0; what <= 6; what++) {
            if (what != 5) {
                Boundary.expect(kind + " changes no value " + what, group.end(exchange, 0, what), without.end(exchange, 0, what));
            }
        }
        if (group.calls() > 0) {
            check(group, exchange, "callValue(c, 3) = " + without.callValue(without.calls() - 1, 3));
        }
    }

    private static void answersToBlocks(int exchange) {
        Boundary.sentence("BLOCK_DONE: if the local block is BLOCKING, it becomes BLOCKED. UNBLOCK_DONE: if it is UNBLOCKING, it becomes"
            + " NOT_BLOCKED");
        String rests = "; total(0) = %d; tick(50) = 0; total(0) = %d";
        TrunkGroup group = arrived(BLOCK_DONE, exchange, LOCAL_BLOCKS[1], 0);
        check(group, exchange, "end(e, 0, 4) = BLOCKED" + rests.replace("%d", Integer.toString(group.total(0))));
        group = arrived(UNBLOCK_DONE, exchange, LOCAL_BLOCKS[3], 0);
        check(group, exchange, "end(e, 0, 4) = NOT_BLOCKED; choice(e) = 0" + rests.replace("%d", Integer.toString(group.total(0))));
        Boundary.sentence(OTHERWISE);
        for (int block = 0; block < LOCAL_BLOCKS.length; block++) {
            if (block != 1) {
                doesNothing(BLOCK_DONE, exchange, LOCAL_BLOCKS[block], LOCAL_BLOCK_TICKS[block], 0);
            }
            if (block != 3) {
                doesNothing(UNBLOCK_DONE, exchange, LOCAL_BLOCKS[block], LOCAL_BLOCK_TICKS[block], 0);
            }
        }
        for (Stages stage : Stages.values()) {
            doesNothing(BLOCK_DONE, exchange, stage);
            doesNothing(UNBLOCK_DONE, exchange, stage);
        }
    }

    // ---- RESET

    private static void reset(int exchange) {
        Boundary.sentence("RESET: RESET_DONE is sent, and the remote block is off; if the local block is BLOCKING or BLOCKED, then BLOCK"
            + " is sent, and the local block becomes BLOCKING with the block timer 10; if the end is not RESETTING, it becomes IDLE, and if"
            + " it was the origin of its call, this call ends with the cause RESETTING_CAUSE");
        for (Stages stage : Stages.values()) {
            String state = stage == Stages.RESETTING ? "end(e, 0, 0) = RESETTING; end(e, 0, 3) = 0;"
                : "end(e, 0, 0) = IDLE; end(e, 0, 1) = NONE; end(e, 0, 2) = 0; end(e, 0, 3) = 0; end(e, 0, 6) = 0;";
            if (stage.hasCall()) {
                state += stage.origin ? "callValue(c, 3) = ENDED; callValue(c, 4) = RESETTING_CAUSE;" : "callValue(c, 4) = NONE;";
            }
            resetWithBlocks(exchange, stage, state);
            // The remote block is on, as BLOCK came just before; the answer to it is lost.
            String way = stage.at(exchange) + "block(o, 0); loseNext(e, 1); tick(1); end(e, 0, 5) = 1;";
            check(arrived(RESET, exchange, way, stage.ticks + 1), exchange, state + "end(e, 0, 5) = 0; message(0, 3) = RESET_DONE");
        }
        check(arrived(RESET, exchange, Stages.RESETTING), exchange, "end(e, 0, 2) = 19");
    }

    private static void resetWithBlocks(int exchange, Stages stage, String state) {
        for (int block = 0; block < LOCAL_BLOCKS.length; block++) {
            if (!fits(stage, block)) {
                continue;
            }
            String way = stage.at(exchange) + LOCAL_BLOCKS[block];
            TrunkGroup group = arrived(RESET, exchange, way, stage.ticks + LOCAL_BLOCK_TICKS[block]);
            String answer = "message(0, 1) = e; message(0, 3) = RESET_DONE; message(0, 4) = 0;";
            boolean toldAgain = block == 1 || block == BLOCKED;
            check(group, exchange, state + answer + "end(e, 0, 5) = 0; end(e, 0, 4) = " + (toldAgain ? 1 : block) + "; messages() = "
                + (toldAgain ? 2 : 1));
            if (toldAgain) {
                // The block timer has counted this tick already: nine ticks more, and BLOCK is sent again.
                check(group, exchange, "message(1, 1) = e; message(1, 3) = BLOCK; loseNext(o, 2); tick(8)");
                int sent = group.total(0);
                check(group, exchange, "end(e, 0, 4) = BLOCKING; tick(1); total(0) = " + (sent + 1) + "; message(0, 3) = BLOCK; message(0, 1) = e");
            }
        }
    }
}
