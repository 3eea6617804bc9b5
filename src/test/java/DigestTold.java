import java.util.ArrayList;
import java.util.List;

/** The digest as the document tells it, from what the object answers and from what can't be asked for. */
final class DigestTold {
    private DigestTold() {
    }

    /** The block timers stand in the order of the circuits, for exchange 0 and then 1. */
    static long of(TrunkGroup group, int saved, int delay, int[] toLose, boolean[] faulty, int[] blockTimers) {
        long h = 12151;
        for (int value : values(group, saved, delay, toLose, faulty, blockTimers)) {
            h = 31 * h + value;
        }
        return h;
    }

    /** The values that go into the digest, in their order. */
    static List<Integer> values(TrunkGroup group, int saved, int delay, int[] toLose, boolean[] faulty, int[] blockTimers) {
        List<Integer> values = new ArrayList<>(List.of(saved, faulty.length, delay, group.time()));
        for (int exchange = 0; exchange < 2; exchange++) {
            values.add(toLose[exchange]);
            values.add(group.choice(exchange));
        }
        for (int circuit = 0; circuit < faulty.length; circuit++) {
            values.add(faulty[circuit] ? 1 : 0);
            for (int exchange = 0; exchange < 2; exchange++) {
                for (int what = 0; what <= 6; what++) {
                    values.add(group.end(exchange, circuit, what));
                }
                values.add(blockTimers[2 * circuit + exchange]);
            }
        }
        values.add(group.calls());
        for (int call = 0; call < group.calls(); call++) {
            for (int what = 0; what <= 4; what++) {
                values.add(group.callValue(call, what));
            }
        }
        values.add(group.messages());
        for (int index = 0; index < group.messages(); index++) {
            for (int what = 0; what <= 4; what++) {
                values.add(group.message(index, what));
            }
        }
        for (int what = 0; what <= 4; what++) {
            values.add(group.count(what));
        }
        for (int what = 0; what <= 4; what++) {
            values.add(group.total(what));
        }
        return values;
    }
}
