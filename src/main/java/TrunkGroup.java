import java.util.Arrays;

/** The signalling for a group of telephone circuits between two exchanges. */
public final class TrunkGroup {
    public static final int NONE = -1;
    public static final int IDLE = 0, OUTGOING = 1, INCOMING = 2, RINGING = 3, TALKING = 4, SUSPENDED = 5, RELEASING = 6, RESETTING = 7;
    public static final int SEIZE = 0, CHECKED = 1, COMPLETE = 2, ANSWER = 3, SUSPEND = 4, RESUME = 5, RELEASE = 6, RELEASED = 7, BLOCK = 8, BLOCK_DONE = 9, UNBLOCK = 10, UNBLOCK_DONE = 11, RESET = 12, RESET_DONE = 13;
    public static final int NOT_BLOCKED = 0, BLOCKING = 1, BLOCKED = 2, UNBLOCKING = 3;
    public static final int SETTING_UP = 0, IN_RINGING = 1, IN_TALKING = 2, IN_SUSPENSION = 3, ENDED = 4;
    public static final int NORMAL = 0, TIMEOUT = 1, GLARE = 2, CHECK = 3, BLOCKAGE = 4, RESETTING_CAUSE = 5, LOST = 6;

    private static final int EXCHANGES = 2;
    private static final int FIRST_CIRCUITS = 4;
    private static final int MOST_CIRCUITS = 12;
    private static final int FIRST_DELAY = 2;
    private static final int MOST_DELAY = 20;
    private static final int MOST_TO_LOSE = 100;
    private static final int MOST_CALLS = 40;
    private static final int MOST_ATTEMPTS = 3;
    private static final int MOST_REPETITIONS = 2;
    private static final int MOST_TICKS = 500;
    private static final int MOST_SAVED = 3;

    private static final int OFF = 0;
    private static final int UNTIL_CHECK = 3;
    private static final int UNTIL_CHECKED = 15;
    private static final int UNTIL_COMPLETE = 30;
    private static final int UNTIL_ANSWER = 60;
    private static final int UNTIL_RESUME = 40;
    private static final int UNTIL_RELEASED = 10;
    private static final int UNTIL_RESET_DONE = 20;
    private static final int UNTIL_BLOCK_DONE = 10;

    private static final int END_VALUES = 7;
    private static final int CALL_VALUES = 5;
    private static final int MESSAGE_VALUES = 5;
    private static final int COUNTS = 5;
    private static final int TOTALS = 5;

    private static final int FIRST_ROOM = 32;
    // 511 resets of 12 circuits, all due in one tick and each answered by two messages, and what timers send
    // meanwhile, stay under 20,000; so this bound is met only beyond the 512 calls of which the document speaks.
    private static final int MOST_MESSAGES = 32768;

    private static final long DIGEST_START = 12151;

    private final State[] saved;
    private int savedCount;
    private State now;

    public TrunkGroup() {
        saved = new State[MOST_SAVED];
        for (int i = 0; i < MOST_SAVED; i++) {
            saved[i] = new State();
        }
        savedCount = 0;
        now = new State();
    }

    // ---- set-up

    public int setCircuits(int circuits) throws IllegalArgumentException {
        if (circuits < 1 || circuits > MOST_CIRCUITS) {
            throw new IllegalArgumentException("circuits is out of range");
        }
        int previous = now.circuits;
        save();
        now.beginAnew(circuits);
        return previous;
    }

    public int setDelay(int ticks) throws IllegalArgumentException {
        if (ticks < 1 || ticks > MOST_DELAY) {
            throw new IllegalArgumentException("ticks is out of range");
        }
        int previous = now.link.delay;
        save();
        now.link.delay = ticks;
        return previous;
    }

    public boolean setFaulty(int circuit, boolean faulty) throws IndexOutOfBoundsException {
        requireCircuit(circuit);
        boolean previous = now.faulty[circuit];
        save();
        now.faulty[circuit] = faulty;
        return previous;
    }

    public int loseNext(int exchange, int count) throws IndexOutOfBoundsException, IllegalArgumentException {
        requireExchange(exchange);
        if (count < 0 || count > MOST_TO_LOSE) {
            throw new IllegalArgumentException("count is out of range");
        }
        int previous = now.link.toLose[exchange];
        save();
        now.link.toLose[exchange] = count;
        return previous;
    }

    // ---- calls

    public int call(int exchange, boolean check) throws IndexOutOfBoundsException, IllegalStateException {
        requireExchange(exchange);
        if (now.callCount >= MOST_CALLS) {
            throw new IllegalStateException("no more calls can be begun");
        }
        int circuit = now.findCircuit(exchange, NONE);
        if (circuit == NONE) {
            throw new IllegalStateException("there is no circuit for the attempt");
        }
        save();
        int number = now.beginCall(exchange, check);
        now.attempt(number, circuit);
        return number;
    }

    public int accept(int exchange, int circuit) throws IndexOutOfBoundsException, IllegalStateException {
        requireEnd(exchange, circuit);
        End end = now.endAt(exchange, circuit);
        if (end.state != INCOMING || end.unchecked) {
            throw new IllegalStateException("there is no call to accept");
        }
        return moveCalledEnd(exchange, circuit, COMPLETE, RINGING);
    }

    public int answer(int exchange, int circuit) throws IndexOutOfBoundsException, IllegalStateException {
        requireEnd(exchange, circuit);
        requireCalledEnd(exchange, circuit, RINGING);
        return moveCalledEnd(exchange, circuit, ANSWER, TALKING);
    }

    public int suspend(int exchange, int circuit) throws IndexOutOfBoundsException, IllegalStateException {
        requireEnd(exchange, circuit);
        requireCalledEnd(exchange, circuit, TALKING);
        return moveCalledEnd(exchange, circuit, SUSPEND, SUSPENDED);
    }

    public int resume(int exchange, int circuit) throws IndexOutOfBoundsException, IllegalStateException {
        requireEnd(exchange, circuit);
        requireCalledEnd(exchange, circuit, SUSPENDED);
        return moveCalledEnd(exchange, circuit, RESUME, TALKING);
    }

    public int release(int exchange, int circuit) throws IndexOutOfBoundsException, IllegalStateException {
        requireEnd(exchange, circuit);
        End end = now.endAt(exchange, circuit);
        if (end.state == IDLE || end.isClearing()) {
            throw new IllegalStateException("there is nothing to release");
        }
        int number = end.call;
        save();
        now.releaseEnd(end, NORMAL);
        return number;
    }

    // ---- blocking and reset

    public int block(int exchange, int circuit) throws IndexOutOfBoundsException, IllegalStateException {
        requireEnd(exchange, circuit);
        End end = now.endAt(exchange, circuit);
        if (end.refusesSeizure()) {
            throw new IllegalStateException("the circuit is blocked already");
        }
        int previous = end.localBlock;
        save();
        now.link.send(end, BLOCK, 0);
        end.setLocalBlock(BLOCKING, UNTIL_BLOCK_DONE);
        return previous;
    }

    public int unblock(int exchange, int circuit) throws IndexOutOfBoundsException, IllegalStateException {
        requireEnd(exchange, circuit);
        End end = now.endAt(exchange, circuit);
        if (!end.refusesSeizure()) {
            throw new IllegalStateException("the circuit is not blocked");
        }
        int previous = end.localBlock;
        save();
        now.link.send(end, UNBLOCK, 0);
        end.setLocalBlock(UNBLOCKING, UNTIL_BLOCK_DONE);
        return previous;
    }

    public int reset(int exchange, int first, int last) throws IndexOutOfBoundsException {
        requireExchange(exchange);
        requireCircuit(first);
        requireCircuit(last);
        if (first > last) {
            throw new IndexOutOfBoundsException("first is beyond last");
        }
        save();
        int idle = 0;
        for (int circuit = first; circuit <= last; circuit++) {
            End end = now.endAt(exchange, circuit);
            if (end.state == IDLE) {
                idle++;
            }
            now.resetEnd(end);
        }
        return idle;
    }

    // ---- time and values

    public int tick(int ticks) throws IllegalArgumentException {
        if (ticks < 1 || ticks > MOST_TICKS) {
            throw new IllegalArgumentException("ticks is out of range");
        }
        save();
        int received = 0;
        for (int i = 0; i < ticks; i++) {
            now.link.time++;
            received += now.receiveDue();
            now.countDown();
        }
        return received;
    }

    public int time() {
        return now.link.time;
    }

    public int end(int exchange, int circuit, int what) throws IndexOutOfBoundsException, IllegalArgumentException {
        requireEnd(exchange, circuit);
        requireWhat(what, END_VALUES);
        return now.endAt(exchange, circuit).valueOf(what);
    }

    public int calls() {
        return now.callCount;
    }

    public int callValue(int call, int what) throws IndexOutOfBoundsException, IllegalArgumentException {
        if (call < 0 || call >= now.callCount) {
            throw new IndexOutOfBoundsException("there is no such call");
        }
        requireWhat(what, CALL_VALUES);
        return now.calls[call].valueOf(what);
    }

    public int messages() {
        return now.link.size;
    }

    public int message(int index, int what) throws IndexOutOfBoundsException, IllegalArgumentException {
        if (index < 0 || index >= now.link.size) {
            throw new IndexOutOfBoundsException("there is no such message");
        }
        requireWhat(what, MESSAGE_VALUES);
        return now.link.valueOf(index, what);
    }

    public int choice(int exchange) throws IndexOutOfBoundsException {
        requireExchange(exchange);
        return now.findCircuit(exchange, NONE);
    }

    public int count(int what) throws IllegalArgumentException {
        requireWhat(what, COUNTS);
        return now.countCircuits(what);
    }

    public int total(int what) throws IllegalArgumentException {
        requireWhat(what, TOTALS);
        return now.totalOf(what);
    }

    // ---- undo and checksum

    public int undo() throws IllegalStateException {
        if (savedCount == 0) {
            throw new IllegalStateException("there is nothing to undo");
        }
        savedCount--;
        // The two change places, so that the state given up is room for the next save.
        State restored = saved[savedCount];
        saved[savedCount] = now;
        now = restored;
        return savedCount;
    }

    public long digest() {
        return now.addTo(31 * DIGEST_START + savedCount);
    }

    // ---- what the methods above share

    private void save() {
        if (savedCount == MOST_SAVED) {
            State oldest = saved[0];
            for (int i = 1; i < MOST_SAVED; i++) {
                saved[i - 1] = saved[i];
            }
            saved[MOST_SAVED - 1] = oldest;
            savedCount--;
        }
        saved[savedCount].copyFrom(now);
        savedCount++;
    }

    private int moveCalledEnd(int exchange, int circuit, int kind, int state) {
        save();
        End end = now.endAt(exchange, circuit);
        now.link.send(end, kind, 0);
        end.enter(state, end.call, OFF);
        return end.call;
    }

    private void requireExchange(int exchange) {
        if (exchange < 0 || exchange >= EXCHANGES) {
            throw new IndexOutOfBoundsException("there is no such exchange");
        }
    }

    private void requireCircuit(int circuit) {
        if (circuit < 0 || circuit >= now.circuits) {
            throw new IndexOutOfBoundsException("there is no such circuit");
        }
    }

    private void requireEnd(int exchange, int circuit) {
        requireExchange(exchange);
        requireCircuit(circuit);
    }

    private void requireCalledEnd(int exchange, int circuit, int state) {
        End end = now.endAt(exchange, circuit);
        if (end.state != state || now.isOrigin(end)) {
            throw new IllegalStateException("the end is in another state, or the origin of its call");
        }
    }

    private void requireWhat(int what, int values) {
        if (what < 0 || what >= values) {
            throw new IllegalArgumentException("what is out of range");
        }
    }

    /** One end of a circuit. */
    private static final class End {
        final int exchange;
        final int circuit;
        int state;
        int call;
        int timer;
        int repetitions;
        int localBlock;
        int blockTimer;
        boolean remoteBlocked;
        // At an OUTGOING end the check is still to be done; at an INCOMING one CHECKED is still to come.
        boolean unchecked;
        // RELEASE is repeated with the value that it had, and by then the call is gone.
        int releaseCause;

        End(int exchange, int circuit) {
            this.exchange = exchange;
            this.circuit = circuit;
            this.call = NONE;
        }

        void clear() {
            becomeIdle();
            setLocalBlock(NOT_BLOCKED, OFF);
            remoteBlocked = false;
            releaseCause = NORMAL;
        }

        void copyFrom(End other) {
            state = other.state;
            call = other.call;
            timer = other.timer;
            repetitions = other.repetitions;
            localBlock = other.localBlock;
            blockTimer = other.blockTimer;
            remoteBlocked = other.remoteBlocked;
            unchecked = other.unchecked;
            releaseCause = other.releaseCause;
        }

        void enter(int newState, int newCall, int newTimer) {
            state = newState;
            call = newCall;
            timer = newTimer;
            repetitions = 0;
            unchecked = false;
        }

        void becomeIdle() {
            enter(IDLE, NONE, OFF);
        }

        void setLocalBlock(int newBlock, int newTimer) {
            localBlock = newBlock;
            blockTimer = newTimer;
        }

        boolean controlsCircuit() {
            return circuit % EXCHANGES == exchange;
        }

        boolean isFree() {
            return state == IDLE && localBlock == NOT_BLOCKED && !remoteBlocked;
        }

        boolean isClearing() {
            return state == RELEASING || state == RESETTING;
        }

        boolean refusesSeizure() {
            return localBlock == BLOCKING || localBlock == BLOCKED;
        }

        boolean awaitsBlockAnswer() {
            return localBlock == BLOCKING || localBlock == UNBLOCKING;
        }

        int valueOf(int what) {
            switch (what) {
                case 0: return state;
                case 1: return call;
                case 2: return timer;
                case 3: return repetitions;
                case 4: return localBlock;
                case 5: return remoteBlocked ? 1 : 0;
                default: return unchecked ? 1 : 0;
            }
        }
    }

    /** A call, from its beginning on; it is kept when it has ended. */
    private static final class Call {
        int origin;
        boolean check;
        int attempts;
        int circuit;
        int phase;
        int cause;

        void copyFrom(Call other) {
            origin = other.origin;
            check = other.check;
            attempts = other.attempts;
            circuit = other.circuit;
            phase = other.phase;
            cause = other.cause;
        }

        void begin(int exchange, boolean checked) {
            origin = exchange;
            check = checked;
            attempts = 0;
            circuit = NONE;
            phase = SETTING_UP;
            cause = NONE;
        }

        void finish(int newCause) {
            phase = ENDED;
            cause = newCause;
        }

        int valueOf(int what) {
            switch (what) {
                case 0: return origin;
                case 1: return circuit;
                case 2: return attempts;
                case 3: return phase;
                default: return cause;
            }
        }
    }

    /** The way between the exchanges: the clock, and the messages that are on their way. */
    private static final class Link {
        static final int SENDER = 1;
        static final int CIRCUIT = 2;
        static final int KIND = 3;
        static final int VALUE = 4;

        int time;
        int delay = FIRST_DELAY;
        int sent;
        int lost;
        final int[] toLose = new int[EXCHANGES];
        // The messages stand in the order of arrival, and then of sending; a message is one number,
        // so that a saved state costs little.
        int size;
        int[] arrivals = new int[FIRST_ROOM];
        int[] contents = new int[FIRST_ROOM];

        void clear() {
            time = 0;
            sent = 0;
            lost = 0;
            size = 0;
            Arrays.fill(toLose, 0);
        }

        void copyFrom(Link other) {
            time = other.time;
            delay = other.delay;
            sent = other.sent;
            lost = other.lost;
            System.arraycopy(other.toLose, 0, toLose, 0, EXCHANGES);
            if (arrivals.length < other.size) {
                arrivals = new int[other.arrivals.length];
                contents = new int[other.arrivals.length];
            }
            size = other.size;
            System.arraycopy(other.arrivals, 0, arrivals, 0, size);
            System.arraycopy(other.contents, 0, contents, 0, size);
        }

        // Only SEIZE needs a call, and the end that sends it has that call by then.
        void send(End from, int kind, int value) {
            sent++;
            if (toLose[from.exchange] > 0) {
                toLose[from.exchange]--;
                lost++;
                return;
            }
            if (size >= MOST_MESSAGES) {
                return;
            }
            if (size >= arrivals.length) {
                arrivals = Arrays.copyOf(arrivals, 2 * size);
                contents = Arrays.copyOf(contents, 2 * size);
            }
            int arrival = time + delay;
            int place = size;
            // A message that was sent with a longer delay is overtaken.
            while (place > 0 && arrivals[place - 1] > arrival) {
                arrivals[place] = arrivals[place - 1];
                contents[place] = contents[place - 1];
                place--;
            }
            arrivals[place] = arrival;
            contents[place] = from.exchange | from.circuit << 1 | kind << 5 | value << 9 | (from.call + 1) << 12;
            size++;
        }

        int countDue() {
            int due = 0;
            while (due < size && arrivals[due] == time) {
                due++;
            }
            return due;
        }

        void dropFirst(int number) {
            if (number == 0) {
                return;
            }
            size -= number;
            System.arraycopy(arrivals, number, arrivals, 0, size);
            System.arraycopy(contents, number, contents, 0, size);
        }

        int valueOf(int index, int what) {
            int content = contents[index];
            switch (what) {
                case SENDER: return content & 1;
                case CIRCUIT: return content >> 1 & 15;
                case KIND: return content >> 5 & 15;
                case VALUE: return content >> 9 & 7;
                default: return arrivals[index] - time;
            }
        }

        int callOf(int index) {
            return (contents[index] >> 12) - 1;
        }
    }

    /** Everything that undo brings back, and the rules by which it changes. */
    private static final class State {
        int circuits = FIRST_CIRCUITS;
        final boolean[] faulty = new boolean[MOST_CIRCUITS];
        final End[] ends = new End[EXCHANGES * MOST_CIRCUITS];
        int callCount;
        final Call[] calls = new Call[MOST_CALLS];
        final Link link = new Link();
        int glares;
        int timersOver;
        int attempts;

        State() {
            for (int i = 0; i < ends.length; i++) {
                ends[i] = new End(i / MOST_CIRCUITS, i % MOST_CIRCUITS);
            }
            for (int i = 0; i < MOST_CALLS; i++) {
                calls[i] = new Call();
            }
        }

        void beginAnew(int newCircuits) {
            circuits = newCircuits;
            for (int i = 0; i < MOST_CIRCUITS; i++) {
                faulty[i] = false;
            }
            for (int i = 0; i < ends.length; i++) {
                ends[i].clear();
            }
            callCount = 0;
            link.clear();
            glares = 0;
            timersOver = 0;
            attempts = 0;
        }

        void copyFrom(State other) {
            circuits = other.circuits;
            for (int i = 0; i < MOST_CIRCUITS; i++) {
                faulty[i] = other.faulty[i];
            }
            for (int i = 0; i < ends.length; i++) {
                ends[i].copyFrom(other.ends[i]);
            }
            callCount = other.callCount;
            for (int i = 0; i < callCount; i++) {
                calls[i].copyFrom(other.calls[i]);
            }
            link.copyFrom(other.link);
            glares = other.glares;
            timersOver = other.timersOver;
            attempts = other.attempts;
        }

        End endAt(int exchange, int circuit) {
            return ends[exchange * MOST_CIRCUITS + circuit];
        }

        boolean hasCall(int number) {
            return number >= 0 && number < callCount;
        }

        boolean isOrigin(End end) {
            return hasCall(end.call) && calls[end.call].origin == end.exchange;
        }

        // ---- attempts of calls

        int findCircuit(int exchange, int leftOut) {
            int other = NONE;
            for (int circuit = 0; circuit < circuits; circuit++) {
                End end = endAt(exchange, circuit);
                if (circuit == leftOut || !end.isFree()) {
                    continue;
                }
                if (end.controlsCircuit()) {
                    return circuit;
                }
                other = circuit;
            }
            return other;
        }

        int beginCall(int exchange, boolean check) {
            int number = callCount;
            calls[number].begin(exchange, check);
            callCount++;
            return number;
        }

        void attempt(int number, int circuit) {
            Call call = calls[number];
            call.attempts++;
            attempts++;
            call.circuit = circuit;
            call.phase = SETTING_UP;
            End end = endAt(call.origin, circuit);
            end.enter(OUTGOING, number, call.check ? UNTIL_CHECK : UNTIL_COMPLETE);
            end.unchecked = call.check;
            link.send(end, SEIZE, call.check ? 1 : 0);
        }

        void tryAgain(int number, int cause) {
            if (!hasCall(number)) {
                return;
            }
            Call call = calls[number];
            int circuit = NONE;
            if (call.attempts < MOST_ATTEMPTS) {
                circuit = findCircuit(call.origin, call.circuit);
            }
            if (circuit == NONE) {
                call.finish(cause);
            } else {
                attempt(number, circuit);
            }
        }

        // ---- how ends leave their calls

        void finishOwnCall(End end, int cause) {
            if (isOrigin(end)) {
                calls[end.call].finish(cause);
            }
        }

        void releaseEnd(End end, int cause) {
            finishOwnCall(end, cause);
            startReleasing(end, cause);
        }

        void startReleasing(End end, int cause) {
            link.send(end, RELEASE, cause);
            end.enter(RELEASING, NONE, UNTIL_RELEASED);
            end.releaseCause = cause;
        }

        void resetEnd(End end) {
            finishOwnCall(end, RESETTING_CAUSE);
            link.send(end, RESET, 0);
            end.enter(RESETTING, NONE, UNTIL_RESET_DONE);
        }

        // ---- what messages do

        int receiveDue() {
            // What is sent meanwhile arrives later, as the delay is at least 1.
            int due = link.countDue();
            for (int i = 0; i < due; i++) {
                receive(i);
            }
            link.dropFirst(due);
            return due;
        }

        void receive(int index) {
            End end = endAt(1 - link.valueOf(index, Link.SENDER), link.valueOf(index, Link.CIRCUIT));
            int kind = link.valueOf(index, Link.KIND);
            int value = link.valueOf(index, Link.VALUE);
            switch (kind) {
                case SEIZE:
                    receiveSeize(end, value, link.callOf(index));
                    break;
                case CHECKED:
                    receiveChecked(end, value);
                    break;
                case RELEASE:
                    receiveRelease(end, value);
                    break;
                case RELEASED:
                    if (end.state == RELEASING) {
                        end.becomeIdle();
                    }
                    break;
                case RESET:
                    receiveReset(end);
                    break;
                case RESET_DONE:
                    if (end.state == RESETTING) {
                        end.becomeIdle();
                    }
                    break;
                default:
                    if (kind < RELEASE) {
                        receiveProgress(end, kind);
                    } else {
                        receiveBlocking(end, kind);
                    }
                    break;
            }
        }

        void receiveSeize(End end, int value, int number) {
            int ownCall = NONE;
            if (end.state == OUTGOING) {
                glares++;
                if (end.controlsCircuit()) {
                    return;
                }
                ownCall = end.call;
                end.call = NONE;
            }
            if (end.isClearing()) {
                return;
            }
            finishOwnCall(end, LOST);
            if (end.refusesSeizure()) {
                startReleasing(end, BLOCKAGE);
            } else {
                boolean check = value == 1;
                end.enter(INCOMING, number, check ? UNTIL_CHECKED : OFF);
                end.unchecked = check;
            }
            if (ownCall != NONE) {
                tryAgain(ownCall, GLARE);
            }
        }

        void receiveChecked(End end, int value) {
            if (end.state != INCOMING || !end.unchecked) {
                return;
            }
            if (value == 1) {
                end.unchecked = false;
                end.timer = OFF;
            } else {
                end.becomeIdle();
            }
        }

        void receiveProgress(End end, int kind) {
            // An OUTGOING end is always the origin of its call, so COMPLETE needs no test of its own.
            if (!isOrigin(end)) {
                return;
            }
            int state = end.state;
            if (kind == COMPLETE && state == OUTGOING) {
                advance(end, RINGING, UNTIL_ANSWER, IN_RINGING);
            } else if (kind == ANSWER && (state == OUTGOING || state == RINGING)) {
                advance(end, TALKING, OFF, IN_TALKING);
            } else if (kind == SUSPEND && state == TALKING) {
                advance(end, SUSPENDED, UNTIL_RESUME, IN_SUSPENSION);
            } else if (kind == RESUME && state == SUSPENDED) {
                advance(end, TALKING, OFF, IN_TALKING);
            }
        }

        void advance(End end, int state, int timer, int phase) {
            end.enter(state, end.call, timer);
            calls[end.call].phase = phase;
        }

        void receiveRelease(End end, int value) {
            link.send(end, RELEASED, 0);
            if (end.isClearing()) {
                return;
            }
            int ownCall = isOrigin(end) ? end.call : NONE;
            end.becomeIdle();
            if (ownCall == NONE) {
                return;
            }
            if (value == BLOCKAGE) {
                tryAgain(ownCall, BLOCKAGE);
            } else {
                calls[ownCall].finish(value);
            }
        }

        void receiveBlocking(End end, int kind) {
            if (kind == BLOCK) {
                end.remoteBlocked = true;
                link.send(end, BLOCK_DONE, 0);
            } else if (kind == UNBLOCK) {
                end.remoteBlocked = false;
                link.send(end, UNBLOCK_DONE, 0);
            } else if (kind == BLOCK_DONE && end.localBlock == BLOCKING) {
                end.setLocalBlock(BLOCKED, OFF);
            } else if (kind == UNBLOCK_DONE && end.localBlock == UNBLOCKING) {
                end.setLocalBlock(NOT_BLOCKED, OFF);
            }
        }

        void receiveReset(End end) {
            link.send(end, RESET_DONE, 0);
            end.remoteBlocked = false;
            if (end.refusesSeizure()) {
                link.send(end, BLOCK, 0);
                end.setLocalBlock(BLOCKING, UNTIL_BLOCK_DONE);
            }
            if (end.state != RESETTING) {
                finishOwnCall(end, RESETTING_CAUSE);
                end.becomeIdle();
            }
        }

        // ---- timers

        void countDown() {
            for (int exchange = 0; exchange < EXCHANGES; exchange++) {
                for (int circuit = 0; circuit < circuits; circuit++) {
                    End end = endAt(exchange, circuit);
                    if (end.timer > 0) {
                        end.timer--;
                        if (end.timer == 0) {
                            actOnTimer(end);
                        }
                    }
                    if (end.awaitsBlockAnswer()) {
                        end.blockTimer--;
                        if (end.blockTimer == 0) {
                            repeatBlocking(end);
                        }
                    }
                }
            }
        }

        void actOnTimer(End end) {
            timersOver++;
            switch (end.state) {
                case OUTGOING:
                    if (end.unchecked) {
                        checkCircuit(end);
                    } else {
                        releaseEnd(end, TIMEOUT);
                    }
                    break;
                case RINGING:
                case SUSPENDED:
                    releaseEnd(end, TIMEOUT);
                    break;
                case INCOMING:
                    releaseEnd(end, CHECK);
                    break;
                case RELEASING:
                    repeatRelease(end);
                    break;
                case RESETTING:
                    link.send(end, RESET, 0);
                    end.timer = UNTIL_RESET_DONE;
                    break;
                default:
                    break;
            }
        }

        void checkCircuit(End end) {
            if (!faulty[end.circuit]) {
                link.send(end, CHECKED, 1);
                end.unchecked = false;
                end.timer = UNTIL_COMPLETE;
                return;
            }
            link.send(end, CHECKED, 0);
            int ownCall = end.call;
            end.becomeIdle();
            tryAgain(ownCall, CHECK);
        }

        void repeatRelease(End end) {
            if (end.repetitions < MOST_REPETITIONS) {
                end.repetitions++;
                link.send(end, RELEASE, end.releaseCause);
                end.timer = UNTIL_RELEASED;
            } else {
                resetEnd(end);
            }
        }

        void repeatBlocking(End end) {
            link.send(end, end.localBlock == BLOCKING ? BLOCK : UNBLOCK, 0);
            end.blockTimer = UNTIL_BLOCK_DONE;
        }

        // ---- values

        int countCircuits(int what) {
            int found = 0;
            for (int circuit = 0; circuit < circuits; circuit++) {
                if (belongsTo(what, endAt(0, circuit), endAt(1, circuit))) {
                    found++;
                }
            }
            return found;
        }

        static boolean belongsTo(int what, End one, End other) {
            switch (what) {
                case 0: return one.state == IDLE && other.state == IDLE;
                case 1: return one.state == TALKING && other.state == TALKING && one.call == other.call;
                case 2: return one.call != NONE && other.call != NONE && one.call != other.call;
                case 3: return one.isClearing() || other.isClearing();
                default: return one.localBlock != NOT_BLOCKED || other.localBlock != NOT_BLOCKED;
            }
        }

        int totalOf(int what) {
            switch (what) {
                case 0: return link.sent;
                case 1: return link.lost;
                case 2: return glares;
                case 3: return timersOver;
                default: return attempts;
            }
        }

        long addTo(long start) {
            long h = 31 * start + circuits;
            h = 31 * h + link.delay;
            h = 31 * h + link.time;
            for (int exchange = 0; exchange < EXCHANGES; exchange++) {
                h = 31 * h + link.toLose[exchange];
                h = 31 * h + findCircuit(exchange, NONE);
            }
            for (int circuit = 0; circuit < circuits; circuit++) {
                h = 31 * h + (faulty[circuit] ? 1 : 0);
                h = addEnd(h, endAt(0, circuit));
                h = addEnd(h, endAt(1, circuit));
            }
            h = addMessages(addCalls(h));
            for (int what = 0; what < COUNTS; what++) {
                h = 31 * h + countCircuits(what);
            }
            for (int what = 0; what < TOTALS; what++) {
                h = 31 * h + totalOf(what);
            }
            return h;
        }

        static long addEnd(long start, End end) {
            long h = start;
            for (int what = 0; what < END_VALUES; what++) {
                h = 31 * h + end.valueOf(what);
            }
            return 31 * h + end.blockTimer;
        }

        long addCalls(long start) {
            long h = 31 * start + callCount;
            for (int number = 0; number < callCount; number++) {
                for (int what = 0; what < CALL_VALUES; what++) {
                    h = 31 * h + calls[number].valueOf(what);
                }
            }
            return h;
        }

        long addMessages(long start) {
            long h = 31 * start + link.size;
            for (int index = 0; index < link.size; index++) {
                for (int what = 0; what < MESSAGE_VALUES; what++) {
                    h = 31 * h + link.valueOf(index, what);
                }
            }
            return h;
        }
    }
}
