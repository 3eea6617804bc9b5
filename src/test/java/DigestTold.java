/** The digest as the document tells it, from what the object answers and from what can't be asked for. */
final class DigestTold {
    private DigestTold() {
    }

    /** The block timers stand in the order of the circuits, for exchange 0 and then 1. */
    static long of(TrunkGroup group, int saved, int delay, int[] toLose, boolean[] faulty, int[] blockTimers) {
        long h = 12151;
        h = 31 * h + saved;
        h = 31 * h + faulty.length;
        h = 31 * h + delay;
        h = 31 * h + group.time();
        for (int exchange = 0; exchange < 2; exchange++) {
            h = 31 * h + toLose[exchange];
            h = 31 * h + group.choice(exchange);
        }
        for (int circuit = 0; circuit < faulty.length; circuit++) {
            h = 31 * h + (faulty[circuit] ? 1 : 0);
            for (int exchange = 0; exchange < 2; exchange++) {
                for (int what = 0; what <= 6; what++) {
                    h = 31 * h + group.end(exchange, circuit, what);
                }
                h = 31 * h + blockTimers[2 * circuit + exchange];
            }
        }
        h = 31 * h + group.calls();
        for (int call = 0; call < group.calls(); call++) {
            for (int what = 0; what <= 4; what++) {
                h = 31 * h + group.callValue(call, what);
            }
        }
        h = 31 * h + group.messages();
        for (int index = 0; index < group.messages(); index++) {
            for (int what = 0; what <= 4; what++) {
                h = 31 * h + group.message(index, what);
            }
        }
        for (int what = 0; what <= 4; what++) {
            h = 31 * h + group.count(what);
        }
        for (int what = 0; what <= 4; what++) {
            h = 31 * h + group.total(what);
        }
        return h;
    }
}
