import java.util.Random;

/** The dearest runs that 512 calls allow, wrong inputs without end, and timers that lead back to idle circuits. */
public final class LimitsTest {
    private static final String[] METHODS = {"setCircuits", "setDelay", "setFaulty", "loseNext", "call", "accept", "answer",
        "suspend", "resume", "release", "block", "unblock", "reset", "tick", "time", "end", "calls", "callValue", "messages",
        "message", "choice", "count", "total", "undo", "digest"};
    private static final int[] PARAMETERS = {1, 1, 2, 2, 2, 2, 2, 2, 2, 2, 2, 2, 3, 1, 0, 3, 0, 2, 0, 2, 1, 1, 1, 0, 0};

    public static void main(String[] args) {
        asManyMessagesAsCanBe();
        overtakingMessages();
        undoAcrossSizes();
        wrongInputsThrowAndChangeNothing();
        farBeyondTheLimit();
        ticksInOneGoOrOneByOne();
        allLeadsBackToIdle();
        Script.finish();
    }

    /** No message may be dropped for want of room in any run of 512 calls; this one has the most on their way. */
    private static void asManyMessagesAsCanBe() {
        TrunkGroup group = Script.run("most messages", "setCircuits(12) = 4; setDelay(20) = 2");
        for (int circuit = 0; circuit < 12; circuit++) {
            Script.more(group, "most messages", "block(1, " + circuit + ") = 0");
        }
        for (int i = 0; i < 496; i++) {
            Script.expect("most messages: reset", group.reset(0, 0, 11), i == 0 ? 12 : 0);
        }
        int resets = 496 * 12;
        // Each RESET is answered by RESET_DONE and BLOCK; the timers of 12 ends are over in the 20th tick, and the
        // block timers in the 10th, but not in the 20th, since RESET has set them anew.
        Script.more(group, "most messages", "messages() = " + (resets + 12), "tick(20) = " + (resets + 12),
            "messages() = " + (12 + 12 + 2 * resets + 12), "total(1) = 0; digest()");
    }

    private static void overtakingMessages() {
        TrunkGroup group = Script.run("overtaking", "setCircuits(12) = 4");
        Model model = new Model();
        model.setCircuits(12);
        int[] delays = {20, 3, 20, 7, 1, 20, 19, 2};
        for (int i = 0; i < 200; i++) {
            int delay = delays[i % delays.length];
            Script.expect("overtaking", group.setDelay(delay), model.setDelay(delay));
            Script.expect("overtaking", group.reset(i % 2, 0, 11), model.reset(i % 2, 0, 11));
        }
        for (int i = 0; i < 50; i++) {
            Script.expect("overtaking", group.digest(), model.digest());
            Script.expect("overtaking", group.tick(1), model.tick(1));
        }
    }

    /** States of few and of many messages take each other's place in the room of the undo stack. */
    private static void undoAcrossSizes() {
        TrunkGroup group = Script.run("undo across sizes", "setCircuits(12) = 4; setDelay(9) = 2; call(0, true) = 0");
        long few = group.digest();
        for (int i = 0; i < 3; i++) {
            group.reset(0, 0, 11);
        }
        Script.more(group, "undo across sizes", "messages() = 37; undo() = 2; undo() = 1; undo() = 0; messages() = 1; tick(9) = 1");
        Script.more(group, "undo across sizes", "undo() = 0");
        for (int i = 0; i < 40; i++) {
            group.reset(1, 0, 11);
        }
        long many = group.digest();
        Script.more(group, "undo across sizes", "setCircuits(1) = 12; undo() = 2");
        Script.expect("undo across sizes: all but the stack is as before", group.messages(), 481);
        Script.expect("undo across sizes", few == many, false);
        Script.more(group, "undo across sizes", "tick(1) = 0; undo() = 2; messages() = 481; message(480, 0) = 9; message(0, 3) = SEIZE");
    }

    private static void wrongInputsThrowAndChangeNothing() {
        Random random = new Random(7);
        for (int run = 0; run < 300; run++) {
            TrunkGroup group = new TrunkGroup();
            for (int i = 0; i < 500; i++) {
                long before = group.digest();
                int number = random.nextInt(METHODS.length);
                String answer = wildCall(random, group, number);
                if (answer.startsWith("throws ")) {
                    boolean known = answer.equals("throws IndexOutOfBoundsException")
                        || answer.equals("throws IllegalArgumentException") || answer.equals("throws IllegalStateException");
                    Script.expect(METHODS[number] + ": " + answer, known, true);
                    Script.expect(METHODS[number] + ": digest after an exception", group.digest(), before);
                } else if (number >= 14 && number != 23) {
                    Script.expect(METHODS[number] + ": digest after a look", group.digest(), before);
                }
            }
        }
    }

    private static String wildCall(Random random, TrunkGroup group, int number) {
        String[] words = new String[PARAMETERS[number]];
        for (int i = 0; i < words.length; i++) {
            words[i] = Integer.toString(random.nextInt(12) == 0 ? random.nextInt() : random.nextInt(8) - 1);
        }
        if (METHODS[number].equals("setFaulty") || METHODS[number].equals("call")) {
            words[1] = Boolean.toString(random.nextBoolean());
        }
        return Script.answer(group, METHODS[number], words);
    }

    /** What later calls answer is free, but no call may be thrown out by the machine or fail to end. */
    private static void farBeyondTheLimit() {
        TrunkGroup group = Script.run("far beyond", "setCircuits(12) = 4; setDelay(20) = 2");
        for (int i = 0; i < 6000; i++) {
            group.reset(0, 0, 11);
        }
        Script.more(group, "far beyond", "tick(500); digest(); undo(); tick(500); call(0, true); tick(500)");
        Random random = new Random(11);
        for (int i = 0; i < 20000; i++) {
            wildCall(random, group, random.nextInt(METHODS.length));
        }
        Script.more(group, "far beyond", "setCircuits(4); call(0, false) = 0; tick(2) = 1");
    }

    private static void ticksInOneGoOrOneByOne() {
        for (int seed = 0; seed < 200; seed++) {
            TrunkGroup one = busyGroup(new Random(seed), 60);
            TrunkGroup other = busyGroup(new Random(seed), 60);
            int received = 0;
            for (int i = 0; i < 137; i++) {
                received += one.tick(1);
            }
            Script.expect("137 ticks", other.tick(137), received);
            Script.expect("the digest after 137 ticks", other.digest(), one.digest());
        }
    }

    private static TrunkGroup busyGroup(Random random, int steps) {
        TrunkGroup group = new TrunkGroup();
        for (int i = 0; i < steps; i++) {
            String exchange = Integer.toString(random.nextInt(2));
            String circuit = Integer.toString(random.nextInt(4));
            switch (random.nextInt(8)) {
                case 0:
                case 1: Script.answer(group, "call", exchange, Boolean.toString(random.nextBoolean())); break;
                case 2: group.tick(1 + random.nextInt(3)); break;
                case 3: Script.answer(group, "accept", exchange, circuit); break;
                case 4: Script.answer(group, "answer", exchange, circuit); break;
                case 5: Script.answer(group, "suspend", exchange, circuit); break;
                case 6: group.loseNext(random.nextInt(2), random.nextInt(5)); break;
                default: Script.answer(group, random.nextBoolean() ? "block" : "unblock", exchange, circuit); break;
            }
        }
        return group;
    }

    /** When no message is lost any more, released ends become idle and blocks come to rest. */
    private static void allLeadsBackToIdle() {
        for (int seed = 0; seed < 200; seed++) {
            TrunkGroup group = busyGroup(new Random(seed), 150);
            group.loseNext(0, 0);
            group.loseNext(1, 0);
            // A shorter delay than before would let RELEASE overtake SEIZE.
            group.setDelay(2 + seed % 4);
            for (int circuit = 0; circuit < 4; circuit++) {
                Script.answer(group, "release", "0", Integer.toString(circuit));
                Script.answer(group, "release", "1", Integer.toString(circuit));
            }
            group.tick(500);
            Script.expect("idle circuits at the end", group.count(0), 4);
            Script.expect("messages at the end", group.messages(), 0);
            for (int circuit = 0; circuit < 4; circuit++) {
                for (int exchange = 0; exchange < 2; exchange++) {
                    int block = group.end(exchange, circuit, 4);
                    Script.expect("a block at rest", block == TrunkGroup.BLOCKED || block == TrunkGroup.NOT_BLOCKED, true);
                }
            }
            for (int call = 0; call < group.calls(); call++) {
                Script.expect("every call has ended", group.callValue(call, 3), TrunkGroup.ENDED);
            }
        }
    }
}
