import java.util.HashSet;
import java.util.Set;

/** What the tests of the document's boundary sentences share; each check belongs to the sentence named last. */
final class Boundary {
    static final String BOUNDS = " = throws IndexOutOfBoundsException";
    static final String ARGUMENT = " = throws IllegalArgumentException";
    static final String STATE = " = throws IllegalStateException";

    /** The longest timer is 60, and what follows on it takes a few ticks more. */
    private static final int TICKS_AFTERWARDS = 70;

    private static final Set<String> SENTENCES = new HashSet<>();
    private static String sentence = "";

    private Boundary() {
    }

    /** Names the sentence that is tested from here on. */
    static void sentence(String words) {
        sentence = words;
        SENTENCES.add(words);
    }

    static TrunkGroup run(String... lines) {
        return Script.run(sentence, lines);
    }

    static void more(TrunkGroup group, String... lines) {
        Script.more(group, sentence, lines);
    }

    static void expect(String what, Object got, Object want) {
        Script.expect(sentence + ": " + what, got, want);
    }

    /** Puts a number in the place of the question mark. */
    static String with(String template, int number) {
        return template.replace("?", Integer.toString(number));
    }

    /** Every number from low to high is taken, with the answer told, and those just outside and far outside are refused. */
    static void range(String stage, String template, int low, int high, String refusal) {
        for (int number = low; number <= high; number++) {
            run(stage, with(template, number));
        }
        outside(stage, template.substring(0, template.indexOf(')') + 1), low, high, refusal);
    }

    /** Numbers outside the range are refused; some of them would be inside if only their lowest bits counted. */
    static void outside(String stage, String template, int low, int high, String refusal) {
        int[] numbers = {low - 1, high + 1, low - 256, low + 65536, low + (1 << 31), Integer.MIN_VALUE, Integer.MAX_VALUE};
        for (int number : numbers) {
            refused(stage, with(template, number), refusal);
        }
    }

    /** The call throws what is due, and nothing of it is left: neither now nor later nor in the states to be restored. */
    static void refused(String stage, String call, String refusal) {
        same(stage + "; " + call + refusal, stage);
    }

    /** The call saves the state from before it, so that undo brings all of it back; three states are kept at most. */
    static void undoable(String stage, String call) {
        TrunkGroup group = run(stage, call);
        TrunkGroup untouched = run(stage);
        int before = statesOf(run(stage));
        int left = Math.min(3, before + 1) - 1;
        expect(call + "; undo()", Script.answer(group, "undo"), Integer.toString(left));
        sameButForTheStack(call + "; undo()", group, left, untouched, before);
        for (int i = 1; i <= TICKS_AFTERWARDS; i++) {
            group.tick(1);
            untouched.tick(1);
            sameButForTheStack(call + "; undo(), " + i + " ticks later", group, Math.min(3, left + i), untouched, Math.min(3, before + i));
        }
        olderStatesAreTheSame(stage, call, left, before);
    }

    private static void olderStatesAreTheSame(String stage, String call, int left, int before) {
        TrunkGroup group = run(stage, call, "undo()");
        TrunkGroup untouched = run(stage);
        for (int i = 1; i <= left; i++) {
            expect(call + "; undo() again", group.undo(), left - i);
            untouched.undo();
            sameButForTheStack(call + "; undo() again", group, left - i, untouched, before - i);
        }
        expect(call + "; undo() with an empty stack", Script.answer(group, "undo"), STATE.substring(3));
    }

    private static int statesOf(TrunkGroup group) {
        String answer = Script.answer(group, "undo");
        return answer.startsWith("throws") ? 0 : Integer.parseInt(answer) + 1;
    }

    static void sameButForTheStack(String what, TrunkGroup one, int savedOfOne, TrunkGroup other, int savedOfOther) {
        expect(what + ", the digest but for the stack", bareDigest(one, savedOfOne), bareDigest(other, savedOfOther));
    }

    /** The digest, had the number of states on the undo stack not been counted; it is the first value of them all. */
    private static long bareDigest(TrunkGroup group, int saved) {
        int circuits = 0;
        while (circuits < 12 && !Script.answer(group, "end", "0", Integer.toString(circuits), "0").startsWith("throws")) {
            circuits++;
        }
        int laterValues = 3 + 4 + 17 * circuits + 1 + 5 * group.calls() + 1 + 5 * group.messages() + 10;
        long weight = saved;
        for (int i = 0; i < laterValues; i++) {
            weight *= 31;
        }
        return group.digest() - weight;
    }

    /** The call can be asked as often as one likes: it neither saves nor changes anything. */
    static void onlyLooks(String stage, String call) {
        same(stage + "; " + call + "; " + call, stage);
    }

    /** After both runs all answers are the same, now, later, and after each undo. */
    static void same(String oneRun, String otherRun) {
        TrunkGroup one = run(oneRun);
        TrunkGroup other = run(otherRun);
        for (int i = 0; i < TICKS_AFTERWARDS; i++) {
            expect(oneRun + ", " + i + " ticks later, digest()", one.digest(), other.digest());
            one.tick(1);
            other.tick(1);
        }
        one = run(oneRun);
        other = run(otherRun);
        for (int i = 0; i <= 3; i++) {
            String answer = Script.answer(one, "undo");
            expect(oneRun + "; undo()", answer, Script.answer(other, "undo"));
            expect(oneRun + "; undo(); digest()", one.digest(), other.digest());
            if (answer.startsWith("throws")) {
                return;
            }
        }
        expect("a fourth undo()", true, false);
    }

    static void finish() {
        System.out.print(SENTENCES.size() + " sentences; ");
        Script.finish();
    }
}
