import java.util.ArrayDeque;
import java.util.ArrayList;
import java.util.Comparator;
import java.util.Deque;
import java.util.List;

/**
 * The document once more, written apart from TrunkGroup and as literally as can be, to be compared with it.
 * It cares neither for speed nor for room.
 */
public final class Model {
    private static final int IDLE = 0, OUTGOING = 1, INCOMING = 2, RINGING = 3, TALKING = 4, SUSPENDED = 5, RELEASING = 6,
        RESETTING = 7;
    private static final int NORMAL = 0, TIMEOUT = 1, GLARE = 2, CHECK = 3, BLOCKAGE = 4, RESETTING_CAUSE = 5, LOST = 6;

    private enum Kind {
        SEIZE, CHECKED, COMPLETE, ANSWER, SUSPEND, RESUME, RELEASE, RELEASED, BLOCK, BLOCK_DONE, UNBLOCK, UNBLOCK_DONE, RESET,
        RESET_DONE
    }

    private record Message(int arrival, int number, int from, int circuit, Kind kind, int value, int call) {
    }

    private static final class End {
        int exchange, circuit, state, timer, repetitions, localBlock, blockTimer, releaseValue;
        int call = -1;
        boolean remoteBlock, checkToDo, waitsForChecked;
    }

    private static final class Call {
        int origin, attempts, circuit, phase;
        int cause = -1;
        boolean check;
    }

    private static final class World {
        int n = 4, delay = 2, time, sent, lost, glares, timers, attempts;
        int[] toLose = new int[2];
        List<Boolean> faulty = new ArrayList<>();
        List<List<End>> ends = new ArrayList<>();
        List<Call> calls = new ArrayList<>();
        List<Message> messages = new ArrayList<>();

        World(int n, int delay) {
            this.n = n;
            this.delay = delay;
            for (int exchange = 0; exchange < 2; exchange++) {
                ends.add(new ArrayList<>());
                for (int circuit = 0; circuit < n; circuit++) {
                    End end = new End();
                    end.exchange = exchange;
                    end.circuit = circuit;
                    ends.get(exchange).add(end);
                }
            }
            for (int circuit = 0; circuit < n; circuit++) {
                faulty.add(false);
            }
        }

        World copy() {
            World copy = new World(n, delay);
            copy.time = time;
            copy.sent = sent;
            copy.lost = lost;
            copy.glares = glares;
            copy.timers = timers;
            copy.attempts = attempts;
            copy.toLose = toLose.clone();
            copy.faulty = new ArrayList<>(faulty);
            copy.messages = new ArrayList<>(messages);
            for (int exchange = 0; exchange < 2; exchange++) {
                for (int circuit = 0; circuit < n; circuit++) {
                    copyEnd(ends.get(exchange).get(circuit), copy.ends.get(exchange).get(circuit));
                }
            }
            for (Call call : calls) {
                Call other = new Call();
                other.origin = call.origin;
                other.attempts = call.attempts;
                other.circuit = call.circuit;
                other.phase = call.phase;
                other.cause = call.cause;
                other.check = call.check;
                copy.calls.add(other);
            }
            return copy;
        }

        private static void copyEnd(End from, End to) {
            to.state = from.state;
            to.timer = from.timer;
            to.repetitions = from.repetitions;
            to.localBlock = from.localBlock;
            to.blockTimer = from.blockTimer;
            to.releaseValue = from.releaseValue;
            to.call = from.call;
            to.remoteBlock = from.remoteBlock;
            to.checkToDo = from.checkToDo;
            to.waitsForChecked = from.waitsForChecked;
        }
    }

    private World w = new World(4, 2);
    private final Deque<World> stack = new ArrayDeque<>();

    private void save() {
        stack.push(w.copy());
        if (stack.size() > 3) {
            stack.removeLast();
        }
    }

    // ---- set-up

    public int setCircuits(int circuits) {
        argument(circuits >= 1 && circuits <= 12);
        save();
        int old = w.n;
        w = new World(circuits, w.delay);
        return old;
    }

    public int setDelay(int ticks) {
        argument(ticks >= 1 && ticks <= 20);
        save();
        int old = w.delay;
        w.delay = ticks;
        return old;
    }

    public boolean setFaulty(int circuit, boolean faulty) {
        bounds(circuit >= 0 && circuit < w.n);
        save();
        return w.faulty.set(circuit, faulty);
    }

    public int loseNext(int exchange, int count) {
        bounds(exchange == 0 || exchange == 1);
        argument(count >= 0 && count <= 100);
        save();
        int old = w.toLose[exchange];
        w.toLose[exchange] = count;
        return old;
    }

    // ---- calls

    public int call(int exchange, boolean check) {
        bounds(exchange == 0 || exchange == 1);
        state(w.calls.size() < 40 && choose(exchange, -1) >= 0);
        save();
        Call call = new Call();
        call.origin = exchange;
        call.check = check;
        w.calls.add(call);
        makeAttempt(w.calls.size() - 1, choose(exchange, -1));
        return w.calls.size() - 1;
    }

    public int accept(int exchange, int circuit) {
        End end = at(exchange, circuit);
        state(end.state == INCOMING && !end.waitsForChecked);
        save();
        send(end, Kind.COMPLETE, 0, -1);
        end.state = RINGING;
        end.timer = 0;
        return end.call;
    }

    public int answer(int exchange, int circuit) {
        End end = at(exchange, circuit);
        state(end.state == RINGING && !ownsItsCall(end));
        save();
        send(end, Kind.ANSWER, 0, -1);
        end.state = TALKING;
        return end.call;
    }

    public int suspend(int exchange, int circuit) {
        End end = at(exchange, circuit);
        state(end.state == TALKING && !ownsItsCall(end));
        save();
        send(end, Kind.SUSPEND, 0, -1);
        end.state = SUSPENDED;
        return end.call;
    }

    public int resume(int exchange, int circuit) {
        End end = at(exchange, circuit);
        state(end.state == SUSPENDED && !ownsItsCall(end));
        save();
        send(end, Kind.RESUME, 0, -1);
        end.state = TALKING;
        return end.call;
    }

    public int release(int exchange, int circuit) {
        End end = at(exchange, circuit);
        state(end.state != IDLE && end.state != RELEASING && end.state != RESETTING);
        save();
        int call = end.call;
        releaseWith(end, NORMAL);
        return call;
    }

    // ---- blocking and reset

    public int block(int exchange, int circuit) {
        End end = at(exchange, circuit);
        state(end.localBlock == 0 || end.localBlock == 3);
        save();
        int old = end.localBlock;
        send(end, Kind.BLOCK, 0, -1);
        end.localBlock = 1;
        end.blockTimer = 10;
        return old;
    }

    public int unblock(int exchange, int circuit) {
        End end = at(exchange, circuit);
        state(end.localBlock == 1 || end.localBlock == 2);
        save();
        int old = end.localBlock;
        send(end, Kind.UNBLOCK, 0, -1);
        end.localBlock = 3;
        end.blockTimer = 10;
        return old;
    }

    public int reset(int exchange, int first, int last) {
        bounds((exchange == 0 || exchange == 1) && first >= 0 && first <= last && last < w.n);
        save();
        int idle = 0;
        for (int circuit = first; circuit <= last; circuit++) {
            End end = at(exchange, circuit);
            idle += end.state == IDLE ? 1 : 0;
            resetThis(end);
        }
        return idle;
    }

    // ---- time and values

    public int tick(int ticks) {
        argument(ticks >= 1 && ticks <= 500);
        save();
        int received = 0;
        for (int i = 0; i < ticks; i++) {
            w.time++;
            List<Message> now = new ArrayList<>();
            for (Message message : w.messages) {
                if (message.arrival == w.time) {
                    now.add(message);
                }
            }
            w.messages.removeAll(now);
            now.sort(Comparator.comparingInt(Message::number));
            for (Message message : now) {
                received++;
                receive(message);
            }
            for (int exchange = 0; exchange < 2; exchange++) {
                for (int circuit = 0; circuit < w.n; circuit++) {
                    timersOf(at(exchange, circuit));
                }
            }
        }
        return received;
    }

    public int time() {
        return w.time;
    }

    public int end(int exchange, int circuit, int what) {
        End end = at(exchange, circuit);
        argument(what >= 0 && what <= 6);
        boolean waits = end.state == OUTGOING && end.checkToDo || end.state == INCOMING && end.waitsForChecked;
        return new int[] {end.state, end.call, end.timer, end.repetitions, end.localBlock, end.remoteBlock ? 1 : 0,
            waits ? 1 : 0}[what];
    }

    public int calls() {
        return w.calls.size();
    }

    public int callValue(int call, int what) {
        bounds(call >= 0 && call < w.calls.size());
        argument(what >= 0 && what <= 4);
        Call c = w.calls.get(call);
        return new int[] {c.origin, c.circuit, c.attempts, c.phase, c.cause}[what];
    }

    public int messages() {
        return w.messages.size();
    }

    public int message(int index, int what) {
        bounds(index >= 0 && index < w.messages.size());
        argument(what >= 0 && what <= 4);
        return messageValue(inOrder().get(index), what);
    }

    private List<Message> inOrder() {
        List<Message> sorted = new ArrayList<>(w.messages);
        sorted.sort(Comparator.comparingInt(Message::arrival).thenComparingInt(Message::number));
        return sorted;
    }

    private int messageValue(Message m, int what) {
        return new int[] {m.arrival - w.time, m.from, m.circuit, m.kind.ordinal(), m.value}[what];
    }

    public int choice(int exchange) {
        bounds(exchange == 0 || exchange == 1);
        return choose(exchange, -1);
    }

    public int count(int what) {
        argument(what >= 0 && what <= 4);
        int count = 0;
        for (int circuit = 0; circuit < w.n; circuit++) {
            End a = at(0, circuit);
            End b = at(1, circuit);
            boolean[] fits = {a.state == IDLE && b.state == IDLE,
                a.state == TALKING && b.state == TALKING && a.call == b.call,
                a.call >= 0 && b.call >= 0 && a.call != b.call,
                a.state >= RELEASING || b.state >= RELEASING,
                a.localBlock != 0 || b.localBlock != 0};
            count += fits[what] ? 1 : 0;
        }
        return count;
    }

    public int total(int what) {
        argument(what >= 0 && what <= 4);
        return new int[] {w.sent, w.lost, w.glares, w.timers, w.attempts}[what];
    }

    // ---- undo and checksum

    public int undo() {
        state(!stack.isEmpty());
        w = stack.pop();
        return stack.size();
    }

    public long digest() {
        List<Integer> values = new ArrayList<>(List.of(stack.size(), w.n, w.delay, w.time));
        for (int exchange = 0; exchange < 2; exchange++) {
            values.add(w.toLose[exchange]);
            values.add(choice(exchange));
        }
        for (int circuit = 0; circuit < w.n; circuit++) {
            values.add(w.faulty.get(circuit) ? 1 : 0);
            for (int exchange = 0; exchange < 2; exchange++) {
                for (int what = 0; what <= 6; what++) {
                    values.add(end(exchange, circuit, what));
                }
                End end = at(exchange, circuit);
                values.add(end.localBlock == 1 || end.localBlock == 3 ? end.blockTimer : 0);
            }
        }
        values.add(calls());
        for (int call = 0; call < calls(); call++) {
            for (int what = 0; what <= 4; what++) {
                values.add(callValue(call, what));
            }
        }
        values.add(messages());
        for (Message message : inOrder()) {
            for (int what = 0; what <= 4; what++) {
                values.add(messageValue(message, what));
            }
        }
        for (int what = 0; what <= 4; what++) {
            values.add(count(what));
        }
        for (int what = 0; what <= 4; what++) {
            values.add(total(what));
        }
        long h = 12151;
        for (int value : values) {
            h = 31 * h + value;
        }
        return h;
    }

    // ---- the terms

    private static void bounds(boolean right) {
        if (!right) {
            throw new IndexOutOfBoundsException();
        }
    }

    private static void argument(boolean right) {
        if (!right) {
            throw new IllegalArgumentException();
        }
    }

    private static void state(boolean right) {
        if (!right) {
            throw new IllegalStateException();
        }
    }

    private End at(int exchange, int circuit) {
        bounds((exchange == 0 || exchange == 1) && circuit >= 0 && circuit < w.n);
        return w.ends.get(exchange).get(circuit);
    }

    private boolean ownsItsCall(End end) {
        return end.call >= 0 && w.calls.get(end.call).origin == end.exchange;
    }

    private void send(End from, Kind kind, int value, int call) {
        w.sent++;
        if (w.toLose[from.exchange] > 0) {
            w.toLose[from.exchange]--;
            w.lost++;
        } else {
            w.messages.add(new Message(w.time + w.delay, w.sent, from.exchange, from.circuit, kind, value, call));
        }
    }

    private int choose(int origin, int leftOut) {
        List<Integer> own = new ArrayList<>();
        List<Integer> others = new ArrayList<>();
        for (int circuit = 0; circuit < w.n; circuit++) {
            End end = at(origin, circuit);
            if (circuit != leftOut && end.state == IDLE && end.localBlock == 0 && !end.remoteBlock) {
                (circuit % 2 == origin ? own : others).add(circuit);
            }
        }
        if (!own.isEmpty()) {
            return own.get(0);
        }
        return others.isEmpty() ? -1 : others.get(others.size() - 1);
    }

    private void makeAttempt(int number, int circuit) {
        Call call = w.calls.get(number);
        call.attempts++;
        w.attempts++;
        call.circuit = circuit;
        call.phase = 0;
        End end = at(call.origin, circuit);
        end.state = OUTGOING;
        end.call = number;
        end.checkToDo = call.check;
        end.timer = call.check ? 3 : 30;
        send(end, Kind.SEIZE, call.check ? 1 : 0, number);
    }

    private void triesAgain(int number, int cause) {
        Call call = w.calls.get(number);
        int circuit = choose(call.origin, call.circuit);
        if (call.attempts < 3 && circuit >= 0) {
            makeAttempt(number, circuit);
        } else {
            endCall(number, cause);
        }
    }

    private void endCall(int number, int cause) {
        w.calls.get(number).phase = 4;
        w.calls.get(number).cause = cause;
    }

    private void becomesIdle(End end) {
        end.state = IDLE;
        end.call = -1;
        end.timer = 0;
        end.repetitions = 0;
        end.checkToDo = false;
        end.waitsForChecked = false;
    }

    private void releaseWith(End end, int cause) {
        send(end, Kind.RELEASE, cause, -1);
        if (ownsItsCall(end)) {
            endCall(end.call, cause);
        }
        becomesIdle(end);
        end.state = RELEASING;
        end.timer = 10;
        end.releaseValue = cause;
    }

    private void resetThis(End end) {
        if (ownsItsCall(end)) {
            endCall(end.call, RESETTING_CAUSE);
        }
        send(end, Kind.RESET, 0, -1);
        becomesIdle(end);
        end.state = RESETTING;
        end.timer = 20;
    }

    private void receive(Message m) {
        End end = at(m.from == 0 ? 1 : 0, m.circuit);
        boolean own = ownsItsCall(end);
        int call = end.call;
        switch (m.kind) {
            case SEIZE -> receiveSeize(end, m);
            case CHECKED -> {
                if (end.state == INCOMING && end.waitsForChecked) {
                    if (m.value == 1) {
                        end.waitsForChecked = false;
                        end.timer = 0;
                    } else {
                        becomesIdle(end);
                    }
                }
            }
            case COMPLETE -> {
                if (end.state == OUTGOING) {
                    to(end, RINGING, 60, 1);
                }
            }
            case ANSWER -> {
                if (own && (end.state == OUTGOING || end.state == RINGING)) {
                    to(end, TALKING, 0, 2);
                }
            }
            case SUSPEND -> {
                if (own && end.state == TALKING) {
                    to(end, SUSPENDED, 40, 3);
                }
            }
            case RESUME -> {
                if (own && end.state == SUSPENDED) {
                    to(end, TALKING, 0, 2);
                }
            }
            case RELEASE -> {
                send(end, Kind.RELEASED, 0, -1);
                if (end.state != RELEASING && end.state != RESETTING) {
                    becomesIdle(end);
                }
                if (own && m.value == BLOCKAGE) {
                    triesAgain(call, BLOCKAGE);
                } else if (own) {
                    endCall(call, m.value);
                }
            }
            case RELEASED -> {
                if (end.state == RELEASING) {
                    becomesIdle(end);
                }
            }
            case BLOCK -> {
                end.remoteBlock = true;
                send(end, Kind.BLOCK_DONE, 0, -1);
            }
            case UNBLOCK -> {
                end.remoteBlock = false;
                send(end, Kind.UNBLOCK_DONE, 0, -1);
            }
            case BLOCK_DONE -> {
                if (end.localBlock == 1) {
                    end.localBlock = 2;
                }
            }
            case UNBLOCK_DONE -> {
                if (end.localBlock == 3) {
                    end.localBlock = 0;
                }
            }
            case RESET -> {
                send(end, Kind.RESET_DONE, 0, -1);
                end.remoteBlock = false;
                if (end.localBlock == 1 || end.localBlock == 2) {
                    send(end, Kind.BLOCK, 0, -1);
                    end.localBlock = 1;
                    end.blockTimer = 10;
                }
                if (end.state != RESETTING) {
                    becomesIdle(end);
                    if (own) {
                        endCall(call, RESETTING_CAUSE);
                    }
                }
            }
            case RESET_DONE -> {
                if (end.state == RESETTING) {
                    becomesIdle(end);
                }
            }
        }
    }

    private void to(End end, int state, int timer, int phase) {
        end.state = state;
        end.timer = timer;
        w.calls.get(end.call).phase = phase;
    }

    private void receiveSeize(End end, Message m) {
        boolean glare = end.state == OUTGOING;
        int lostCall = -1;
        if (glare) {
            w.glares++;
            if (m.circuit % 2 == end.exchange) {
                return;
            }
            lostCall = end.call;
            becomesIdle(end);
        }
        if (end.state == RELEASING || end.state == RESETTING) {
            return;
        }
        if (ownsItsCall(end)) {
            endCall(end.call, LOST);
        }
        becomesIdle(end);
        if (end.localBlock == 1 || end.localBlock == 2) {
            send(end, Kind.RELEASE, BLOCKAGE, -1);
            end.state = RELEASING;
            end.timer = 10;
            end.releaseValue = BLOCKAGE;
        } else {
            end.state = INCOMING;
            end.call = m.call;
            end.waitsForChecked = m.value == 1;
            end.timer = m.value == 1 ? 15 : 0;
        }
        if (glare) {
            triesAgain(lostCall, GLARE);
        }
    }

    private void timersOf(End end) {
        if (end.timer > 0) {
            end.timer--;
            if (end.timer == 0) {
                w.timers++;
                timerIsOver(end);
            }
        }
        if (end.localBlock == 1 || end.localBlock == 3) {
            end.blockTimer--;
            if (end.blockTimer == 0) {
                send(end, end.localBlock == 1 ? Kind.BLOCK : Kind.UNBLOCK, 0, -1);
                end.blockTimer = 10;
            }
        }
    }

    private void timerIsOver(End end) {
        if (end.state == OUTGOING && end.checkToDo) {
            end.checkToDo = false;
            if (!w.faulty.get(end.circuit)) {
                send(end, Kind.CHECKED, 1, -1);
                end.timer = 30;
            } else {
                send(end, Kind.CHECKED, 0, -1);
                int call = end.call;
                becomesIdle(end);
                triesAgain(call, CHECK);
            }
        } else if (end.state == OUTGOING || end.state == RINGING || end.state == SUSPENDED) {
            releaseWith(end, TIMEOUT);
        } else if (end.state == INCOMING) {
            releaseWith(end, CHECK);
        } else if (end.state == RELEASING && end.repetitions < 2) {
            end.repetitions++;
            send(end, Kind.RELEASE, end.releaseValue, -1);
            end.timer = 10;
        } else if (end.state == RELEASING) {
            resetThis(end);
        } else if (end.state == RESETTING) {
            send(end, Kind.RESET, 0, -1);
            end.timer = 20;
        }
    }
}
