import java.util.ArrayList;
import java.util.List;
import java.util.Random;

/** Long random runs, each call compared with the model, and the digest after it; the seeds are fixed. */
public final class ModelTest {
    private static final int RUNS = 3000;
    private static final int CALLS = 512;

    private final Random random;
    private final TrunkGroup group = new TrunkGroup();
    private final Model model = new Model();
    private final List<String> told = new ArrayList<>();
    private final int haste;
    private int circuits = 4;

    private ModelTest(long seed) {
        random = new Random(seed);
        haste = 1 + random.nextInt(12);
    }

    public static void main(String[] args) {
        int[] causes = new int[7];
        int[] third = new int[1];
        for (int seed = 0; seed < RUNS; seed++) {
            ModelTest test = new ModelTest(seed);
            if (!test.run()) {
                Script.expect("run " + seed + ": " + test.told, "another answer", "the model's answer");
                break;
            }
            test.countWhatWasReached(causes, third);
        }
        for (int cause = 0; cause < causes.length; cause++) {
            Script.expect("the runs reach the cause " + cause, causes[cause] > 0, true);
        }
        Script.expect("the runs reach a third attempt", third[0] > 0, true);
        Script.finish();
    }

    private boolean run() {
        if (random.nextBoolean() && !same("setCircuits", 1 + random.nextInt(12))) {
            return false;
        }
        for (int i = 0; i < CALLS; i++) {
            if (!nextStep()) {
                return false;
            }
            if (group.digest() != model.digest()) {
                told.add("digest");
                return false;
            }
        }
        return true;
    }

    private void countWhatWasReached(int[] causes, int[] third) {
        for (int call = 0; call < group.calls(); call++) {
            int cause = group.callValue(call, 4);
            if (cause >= 0) {
                causes[cause]++;
            }
            if (group.callValue(call, 2) == 3) {
                third[0]++;
            }
        }
    }

    private boolean same(String name, int... arguments) {
        String[] words = new String[arguments.length];
        for (int i = 0; i < words.length; i++) {
            words[i] = Integer.toString(arguments[i]);
        }
        return sameWords(name, words);
    }

    private boolean sameWords(String name, String... words) {
        String want = Script.answer(model, name, words);
        String got = Script.answer(group, name, words);
        told.add(name + "(" + String.join(", ", words) + ") = " + got);
        if (name.equals("setCircuits") || name.equals("undo")) {
            circuits = circuitsNow();
        }
        return got.equals(want);
    }

    private int circuitsNow() {
        int n = 1;
        while (n < 12 && !Script.answer(group, "end", "0", Integer.toString(n), "0").startsWith("throws")) {
            n++;
        }
        return n;
    }

    private boolean nextStep() {
        int choice = random.nextInt(100);
        if (choice < 24) {
            return same("tick", random.nextInt(40) == 0 ? 1 + random.nextInt(60) : 1 + random.nextInt(haste));
        }
        if (choice < 40) {
            return sameWords("call", Integer.toString(random.nextInt(2)), Boolean.toString(random.nextInt(3) == 0));
        }
        if (choice < 70) {
            return moveAnEnd();
        }
        if (choice < 76) {
            return same(random.nextBoolean() ? "block" : "unblock", random.nextInt(2), random.nextInt(circuits));
        }
        if (choice < 78) {
            int first = random.nextInt(circuits);
            return same("reset", random.nextInt(2), first, Math.min(circuits - 1, first + random.nextInt(3)));
        }
        if (choice < 83) {
            return same("loseNext", random.nextInt(2), random.nextInt(4));
        }
        if (choice < 88) {
            return same("setDelay", random.nextInt(3) == 0 ? 1 + random.nextInt(20) : 1 + random.nextInt(4));
        }
        if (choice < 90) {
            return sameWords("setFaulty", Integer.toString(random.nextInt(circuits)), Boolean.toString(random.nextInt(3) == 0));
        }
        if (choice < 92) {
            return same("undo");
        }
        if (choice < 98) {
            return look();
        }
        if (choice < 99 && random.nextInt(3) == 0) {
            return same("setCircuits", 1 + random.nextInt(random.nextBoolean() ? 12 : 4));
        }
        return wild();
    }

    private boolean moveAnEnd() {
        int exchange = random.nextInt(2);
        int circuit = random.nextInt(circuits);
        for (int i = 0; i < 24 && group.end(exchange, circuit, 0) == TrunkGroup.IDLE; i++) {
            exchange = random.nextInt(2);
            circuit = random.nextInt(circuits);
        }
        String[] likely = {"release", "release", "accept", "answer", "suspend", "resume", "release", "release"};
        String name = likely[group.end(exchange, circuit, 0)];
        if (random.nextInt(6) == 0) {
            name = likely[random.nextInt(likely.length)];
        }
        return same(name, exchange, circuit);
    }

    private boolean look() {
        switch (random.nextInt(6)) {
            case 0: return same("end", random.nextInt(2), random.nextInt(circuits), random.nextInt(7));
            case 1: return same("callValue", random.nextInt(8), random.nextInt(5));
            case 2: return same("message", random.nextInt(4), random.nextInt(5));
            case 3: return same("choice", random.nextInt(2));
            case 4: return same("count", random.nextInt(5));
            default: return same("total", random.nextInt(5));
        }
    }

    private int wildNumber() {
        int[] numbers = {Integer.MIN_VALUE, -2, -1, 0, 1, 2, 3, 4, 5, 7, 11, 12, 13, 20, 21, 39, 40, 41, 100, 101, 500, 501,
            Integer.MAX_VALUE};
        return numbers[random.nextInt(numbers.length)];
    }

    private boolean wild() {
        String[] two = {"loseNext", "accept", "answer", "suspend", "resume", "release", "block", "unblock", "callValue",
            "message"};
        String[] one = {"setCircuits", "setDelay", "tick", "choice", "count", "total"};
        switch (random.nextInt(4)) {
            case 0: return same(one[random.nextInt(one.length)], wildNumber());
            case 1: return same(two[random.nextInt(two.length)], wildNumber(), wildNumber());
            case 2: return same("reset", wildNumber(), wildNumber(), wildNumber());
            default: return same("end", wildNumber(), wildNumber(), wildNumber());
        }
    }
}
