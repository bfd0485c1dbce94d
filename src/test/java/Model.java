import java.util.ArrayList;
import java.util.HashSet;
import java.util.List;
import java.util.Set;

/**
 * The document once more, bit by bit and as slowly as its words go, so that the program is held against something that
 * was built in another way: written values are kept as values, responses are put together byte by byte out of all who
 * still send, and the checksum is taken over rows.
 */
final class Model {
    static final int NONE = -1;

    static final class Frame {
        int identifier;
        int publisher;
        int length;
        boolean enhanced;
        int event = NONE;
        boolean pending;
    }

    static final class Signal {
        int frame;
        int offset;
        int width;
        int written;
        int received;
        boolean fresh;
    }

    static final class Event {
        int identifier;
        List<Integer> frames;
        int table;
    }

    private final List<Frame> frames = new ArrayList<>();
    private final List<Signal> signals = new ArrayList<>();
    private final List<List<Integer>> groups = new ArrayList<>();
    private final List<Event> events = new ArrayList<>();
    private final List<List<int[]>> tables = List.of(new ArrayList<>(), new ArrayList<>(), new ArrayList<>());
    private final int[] counts = new int[5];
    private boolean started;
    private boolean asleep;
    private boolean boundaryForced;
    private int slotAge;
    private int slotDelay;
    private int present;
    private int next;
    private int[] aside;
    private int requested = NONE;
    private int latestEvent = NONE;
    private int latestAnswer = NONE;
    private int[] noise;
    private Integer header;
    private final List<Integer> response = new ArrayList<>();

    private static boolean in(int a, int least, int most) {
        return least <= a && a <= most;
    }

    private boolean borne(int identifier) {
        Set<Integer> all = new HashSet<>();
        frames.forEach(f -> all.add(f.identifier));
        events.forEach(e -> all.add(e.identifier));
        return all.contains(identifier);
    }

    int frame(int identifier, int publisher, int length, boolean enhanced) {
        if (started || frames.size() == 8 || !in(identifier, 0, 59) || borne(identifier) || !in(publisher, 0, 3)
            || !in(length, 1, 8)) {
            return NONE;
        }
        Frame f = new Frame();
        f.identifier = identifier;
        f.publisher = publisher;
        f.length = length;
        f.enhanced = enhanced;
        frames.add(f);
        return frames.size() - 1;
    }

    private static boolean hasBit(Signal s, int b) {
        return b >= s.offset && b < s.offset + s.width;
    }

    int signal(int frame, int offset, int width, int value) {
        if (started || signals.size() == 16 || !in(frame, 0, frames.size() - 1) || !in(width, 1, 16)
            || !in(offset, 0, 63)) {
            return NONE;
        }
        Frame f = frames.get(frame);
        for (int b = offset; b < offset + width; b++) {
            if (b >= 8 * f.length || (f.event != NONE && b < 8)) {
                return NONE;
            }
            for (Signal s : signals) {
                if (s.frame == frame && hasBit(s, b)) {
                    return NONE;
                }
            }
        }
        if (!in(value, 0, (int) Math.pow(2, width) - 1)) {
            return NONE;
        }
        Signal s = new Signal();
        s.frame = frame;
        s.offset = offset;
        s.width = width;
        s.written = value;
        s.received = value;
        signals.add(s);
        return signals.size() - 1;
    }

    private static List<Integer> row(int a, int b, int c) {
        return c == NONE ? List.of(a, b) : List.of(a, b, c);
    }

    int sporadic(int a, int b, int c) {
        List<Integer> row = row(a, b, c);
        if (started || groups.size() == 2 || new HashSet<>(row).size() < row.size()) {
            return NONE;
        }
        for (int f : row) {
            if (!in(f, 0, frames.size() - 1) || frames.get(f).publisher != 0) {
                return NONE;
            }
        }
        groups.add(row);
        return groups.size() - 1;
    }

    int event(int identifier, int a, int b, int c, int table) {
        List<Integer> row = row(a, b, c);
        if (started || events.size() == 2 || !in(identifier, 0, 59) || borne(identifier) || !in(table, 0, 2)) {
            return NONE;
        }
        Set<Integer> publishers = new HashSet<>();
        Set<String> kinds = new HashSet<>();
        for (int f : row) {
            if (!in(f, 0, frames.size() - 1) || frames.get(f).event != NONE || frames.get(f).publisher == 0) {
                return NONE;
            }
            publishers.add(frames.get(f).publisher);
            kinds.add(frames.get(f).length + " " + frames.get(f).enhanced);
            for (Signal s : signals) {
                if (s.frame == f && s.offset < 8) {
                    return NONE;
                }
            }
        }
        if (publishers.size() < row.size() || kinds.size() > 1) {
            return NONE;
        }
        Event e = new Event();
        e.identifier = identifier;
        e.frames = row;
        e.table = table;
        row.forEach(f -> frames.get(f).event = events.size());
        events.add(e);
        return events.size() - 1;
    }

    boolean entry(int table, int kind, int number, int delay) {
        if (started || !in(table, 0, 2) || tables.get(table).size() == 8 || !in(kind, 0, 2) || !in(delay, 1, 20)) {
            return false;
        }
        int many = List.of(frames.size(), groups.size(), events.size()).get(kind);
        if (!in(number, 0, many - 1)) {
            return false;
        }
        tables.get(table).add(new int[] {kind, number, delay});
        return true;
    }

    boolean start(int table) {
        if (started || !in(table, 0, 2) || tables.get(table).isEmpty()) {
            return false;
        }
        for (Event e : events) {
            Set<Integer> there = new HashSet<>();
            for (int[] entry : tables.get(e.table)) {
                if (entry[0] != 0) {
                    return false;
                }
                there.add(entry[1]);
            }
            if (!there.containsAll(e.frames)) {
                return false;
            }
        }
        started = true;
        boundaryForced = true;
        present = table;
        next = 0;
        return true;
    }

    boolean write(int signal, int value) {
        if (!in(signal, 0, signals.size() - 1) || !in(value, 0, (1 << signals.get(signal).width) - 1)) {
            return false;
        }
        signals.get(signal).written = value;
        frames.get(signals.get(signal).frame).pending = true;
        return true;
    }

    int read(int signal) {
        return in(signal, 0, signals.size() - 1) ? signals.get(signal).received : NONE;
    }

    boolean fresh(int signal) {
        if (!in(signal, 0, signals.size() - 1)) {
            return false;
        }
        boolean was = signals.get(signal).fresh;
        signals.get(signal).fresh = false;
        return was;
    }

    boolean pending(int frame) {
        return in(frame, 0, frames.size() - 1) && frames.get(frame).pending;
    }

    boolean request(int table) {
        if (!started || !in(table, 0, 2) || tables.get(table).isEmpty()) {
            return false;
        }
        requested = table;
        return true;
    }

    boolean noise(int k, int mask) {
        if (!in(k, 0, 8) || !in(mask, 1, 255)) {
            return false;
        }
        noise = new int[] {k, mask};
        return true;
    }

    private static int protect(int identifier) {
        int[] i = new int[6];
        for (int b = 0; b < 6; b++) {
            i[b] = identifier / (1 << b) % 2;
        }
        return identifier + 64 * ((i[0] + i[1] + i[2] + i[4]) % 2) + 128 * (1 - (i[1] + i[3] + i[4] + i[5]) % 2);
    }

    private static int checksum(List<Integer> data, boolean enhanced, int header) {
        int sum = enhanced ? header : 0;
        for (int b : data) {
            sum += b;
        }
        while (sum > 255) {
            sum -= 255;
        }
        return 255 - sum;
    }

    private List<Integer> sent(int frame, int header) {
        Frame f = frames.get(frame);
        int[] bytes = new int[f.length];
        for (int b = 0; b < 8 * f.length; b++) {
            int bit = 1;
            for (Signal s : signals) {
                if (s.frame == frame && hasBit(s, b)) {
                    bit = s.written / (1 << (b - s.offset)) % 2;
                }
            }
            bytes[b / 8] += bit * (1 << (b % 8));
        }
        if (f.event != NONE) {
            bytes[0] = protect(f.identifier);
        }
        List<Integer> row = new ArrayList<>();
        for (int b : bytes) {
            row.add(b);
        }
        row.add(checksum(row, f.enhanced, header));
        return row;
    }

    private void respond(List<Integer> senders) {
        List<List<Integer>> sending = new ArrayList<>();
        senders.forEach(f -> sending.add(sent(f, header)));
        int k = 0;
        while (!sending.isEmpty()) {
            int on = 255;
            for (List<Integer> row : sending) {
                on &= row.get(k);
            }
            response.add(on);
            k++;
            for (int i = sending.size() - 1; i >= 0; i--) {
                if (sending.get(i).get(k - 1) != on || sending.get(i).size() == k) {
                    sending.remove(i);
                }
            }
        }
        if (noise != null && noise[0] < response.size()) {
            response.set(noise[0], response.get(noise[0]) ^ noise[1]);
        }
        noise = null;
    }

    /** The frame that is received out of the response, or NONE; in an event frame's slot among its associated ones. */
    private int received(List<Integer> candidates, boolean byFirstByte) {
        for (int f : candidates) {
            int length = frames.get(f).length;
            if (response.size() == length + 1 && (!byFirstByte || response.get(0) == protect(frames.get(f).identifier))
                && response.get(length) == checksum(response.subList(0, length), frames.get(f).enhanced, header)) {
                return f;
            }
        }
        return NONE;
    }

    private void take(int frame) {
        frames.get(frame).pending = false;
        for (Signal s : signals) {
            if (s.frame == frame) {
                s.received = 0;
                for (int j = 0; j < s.width; j++) {
                    int b = s.offset + j;
                    s.received += (response.get(b / 8) / (1 << (b % 8)) % 2) * (1 << j);
                }
                s.fresh = true;
            }
        }
    }

    private int slot(int kind, int number) {
        header = null;
        response.clear();
        latestEvent = kind == 2 ? number : NONE;
        List<Integer> senders = new ArrayList<>();
        List<Integer> candidates = senders;
        if (kind == 0) {
            senders.add(number);
        } else if (kind == 1) {
            for (int f : groups.get(number)) {
                if (senders.isEmpty() && frames.get(f).pending) {
                    senders.add(f);
                }
            }
        } else {
            candidates = events.get(number).frames;
            for (int f : candidates) {
                if (frames.get(f).pending) {
                    senders.add(f);
                }
            }
        }
        if (kind == 2) {
            header = protect(events.get(number).identifier);
        } else if (!senders.isEmpty()) {
            header = protect(frames.get(senders.get(0)).identifier);
        }
        if (senders.isEmpty()) {
            return 2;
        }
        respond(senders);
        int got = received(candidates, kind == 2);
        if (got == NONE) {
            return kind == 2 ? 4 : 3;
        }
        take(got);
        return 1;
    }

    int tick() {
        if (!started || asleep) {
            return NONE;
        }
        if (!boundaryForced && slotAge < slotDelay) {
            slotAge++;
            return 0;
        }
        boundaryForced = false;
        if (latestEvent != NONE && latestAnswer == 4) {
            aside = new int[] {present, next};
            present = events.get(latestEvent).table;
            next = 0;
        } else if (aside != null && next == tables.get(present).size()) {
            present = aside[0];
            next = aside[1];
            aside = null;
        }
        if (aside == null && requested != NONE) {
            present = requested;
            next = 0;
            requested = NONE;
        }
        if (next == tables.get(present).size()) {
            next = 0;
        }
        int[] entry = tables.get(present).get(next);
        next++;
        slotAge = 1;
        slotDelay = entry[2];
        latestAnswer = slot(entry[0], entry[1]);
        counts[latestAnswer]++;
        return latestAnswer;
    }

    int bus(int k) {
        if (k == 0 && header != null) {
            return header;
        }
        return in(k, 1, response.size()) ? response.get(k - 1) : NONE;
    }

    int count(int answer) {
        return in(answer, 1, 4) ? counts[answer] : NONE;
    }

    int position() {
        return started ? 16 * present + next + (aside != null ? 64 : 0) : NONE;
    }

    boolean sleep() {
        if (!started || asleep) {
            return false;
        }
        asleep = true;
        return true;
    }

    boolean wake() {
        if (!asleep) {
            return false;
        }
        asleep = false;
        boundaryForced = true;
        return true;
    }
}
