import java.util.ArrayList;

/** A bus with one master and three slaves, driven by schedule tables. */
public final class HeaderSchedule {
    public static final int NONE = -1;

    private static final int MOST_FRAMES = 8;
    private static final int MOST_SIGNALS = 16;
    private static final int MOST_GROUPS = 2;
    private static final int MOST_EVENTS = 2;
    private static final int MOST_ENTRIES = 8;
    private static final int TABLES = 3;

    private static final int LAST_IDENTIFIER = 59;
    private static final int MASTER = 0;
    private static final int LAST_NODE = 3;
    private static final int MOST_BYTES = 8;
    private static final int MOST_WIDTH = 16;
    private static final int MOST_DELAY = 20;
    private static final int BYTE = 255;

    private static final int OF_FRAME = 0;
    private static final int OF_GROUP = 1;
    private static final int OF_EVENT = 2;

    private static final int UNDER_WAY = 0;
    private static final int RECEIVED = 1;
    private static final int SILENT = 2;
    private static final int NOT_VALID = 3;
    private static final int EVENT_NOT_VALID = 4;

    private final ArrayList<Frame> frames = new ArrayList<>();
    private final ArrayList<Signal> signals = new ArrayList<>();
    private final ArrayList<Group> groups = new ArrayList<>();
    private final ArrayList<Event> events = new ArrayList<>();
    private final boolean[] borne = new boolean[LAST_IDENTIFIER + 1];
    private final Schedule schedule = new Schedule();
    private final Wire wire = new Wire();
    private final int[] counts = new int[EVENT_NOT_VALID + 1];
    private boolean started = false;
    private boolean asleep = false;
    private int ticksLeft = 0;

    public HeaderSchedule() {
    }

    public int frame(int identifier, int publisher, int length, boolean enhanced) {
        if (started || frames.size() >= MOST_FRAMES || !isFree(identifier)) {
            return NONE;
        }
        if (!isWithin(publisher, MASTER, LAST_NODE) || !isWithin(length, 1, MOST_BYTES)) {
            return NONE;
        }
        int number = frames.size();
        frames.add(new Frame(number, protect(identifier), publisher, length, enhanced));
        borne[identifier] = true;
        return number;
    }

    public int signal(int frame, int offset, int width, int value) {
        Frame owner = frameAt(frame);
        if (started || signals.size() >= MOST_SIGNALS || owner == null) {
            return NONE;
        }
        if (!isWithin(width, 1, MOST_WIDTH) || !isWithin(offset, 0, 8 * owner.length - width)) {
            return NONE;
        }
        Signal made = new Signal(owner, offset, width, value);
        if ((owner.taken & made.bits()) != 0 || !made.canHold(value)) {
            return NONE;
        }
        owner.taken |= made.bits();
        made.putWritten(value);
        signals.add(made);
        return signals.size() - 1;
    }

    public int sporadic(int a, int b, int c) {
        if (started || groups.size() >= MOST_GROUPS || a == b || a == c || b == c) {
            return NONE;
        }
        if (!isMasters(a) || !isMasters(b) || (c != NONE && !isMasters(c))) {
            return NONE;
        }
        groups.add(new Group(rowOf(a, b, c)));
        return groups.size() - 1;
    }

    public int event(int identifier, int a, int b, int c, int table) {
        if (started || events.size() >= MOST_EVENTS || !isFree(identifier) || !isTable(table)) {
            return NONE;
        }
        if (!isAssociable(a) || !isAssociable(b) || (c != NONE && !isAssociable(c))) {
            return NONE;
        }
        Frame[] members = rowOf(a, b, c);
        if (!areAlike(members)) {
            return NONE;
        }
        for (Frame member : members) {
            member.associate();
        }
        events.add(new Event(protect(identifier), members, table));
        borne[identifier] = true;
        return events.size() - 1;
    }

    public boolean entry(int table, int kind, int number, int delay) {
        if (started || !isTable(table) || schedule.sizeOf(table) >= MOST_ENTRIES) {
            return false;
        }
        if (!isWithin(number, 0, howManyOf(kind) - 1) || !isWithin(delay, 1, MOST_DELAY)) {
            return false;
        }
        schedule.tables[table].entries.add(new Entry(kind, number, delay));
        return true;
    }

    public boolean start(int table) {
        if (started || !isTable(table) || schedule.sizeOf(table) == 0 || !canResolveAll()) {
            return false;
        }
        started = true;
        schedule.begin(table);
        return true;
    }

    public boolean write(int signal, int value) {
        Signal written = signalAt(signal);
        if (written == null || !written.canHold(value)) {
            return false;
        }
        written.putWritten(value);
        written.owner.isPending = true;
        return true;
    }

    public int read(int signal) {
        Signal wanted = signalAt(signal);
        return wanted == null ? NONE : wanted.received;
    }

    public boolean fresh(int signal) {
        Signal wanted = signalAt(signal);
        if (wanted == null) {
            return false;
        }
        boolean was = wanted.isFresh;
        wanted.isFresh = false;
        return was;
    }

    public boolean pending(int frame) {
        Frame wanted = frameAt(frame);
        return wanted != null && wanted.isPending;
    }

    public boolean request(int table) {
        if (!started || !isTable(table) || schedule.sizeOf(table) == 0) {
            return false;
        }
        schedule.requested = table;
        return true;
    }

    public boolean noise(int k, int mask) {
        if (!isWithin(k, 0, MOST_BYTES) || !isWithin(mask, 1, BYTE)) {
            return false;
        }
        wire.noiseByte = k;
        wire.noiseMask = mask;
        return true;
    }

    public int tick() {
        if (!started || asleep) {
            return NONE;
        }
        if (ticksLeft > 0) {
            ticksLeft--;
            return UNDER_WAY;
        }
        schedule.passBoundary();
        Entry entry = schedule.takeNext();
        ticksLeft = entry.delay - 1;
        int answer = runSlot(entry);
        counts[answer]++;
        return answer;
    }

    public int bus(int k) {
        return wire.byteAt(k);
    }

    public int count(int answer) {
        return isWithin(answer, RECEIVED, EVENT_NOT_VALID) ? counts[answer] : NONE;
    }

    public int position() {
        return started ? schedule.place() : NONE;
    }

    public boolean sleep() {
        if (!started || asleep) {
            return false;
        }
        asleep = true;
        ticksLeft = 0;
        return true;
    }

    public boolean wake() {
        if (!asleep) {
            return false;
        }
        asleep = false;
        return true;
    }

    private static boolean isWithin(int number, int least, int most) {
        return number >= least && number <= most;
    }

    private static boolean isTable(int table) {
        return isWithin(table, 0, TABLES - 1);
    }

    private boolean isFree(int identifier) {
        return isWithin(identifier, 0, LAST_IDENTIFIER) && !borne[identifier];
    }

    private Frame frameAt(int number) {
        return isWithin(number, 0, frames.size() - 1) ? frames.get(number) : null;
    }

    private Signal signalAt(int number) {
        return isWithin(number, 0, signals.size() - 1) ? signals.get(number) : null;
    }

    private int howManyOf(int kind) {
        switch (kind) {
            case OF_FRAME:
                return frames.size();
            case OF_GROUP:
                return groups.size();
            case OF_EVENT:
                return events.size();
            default:
                return 0;
        }
    }

    /** Only for frames that are known to exist; c may be NONE. */
    private Frame[] rowOf(int a, int b, int c) {
        if (c == NONE) {
            return new Frame[] {frames.get(a), frames.get(b)};
        }
        return new Frame[] {frames.get(a), frames.get(b), frames.get(c)};
    }

    private boolean isMasters(int number) {
        Frame frame = frameAt(number);
        return frame != null && frame.publisher == MASTER;
    }

    private boolean isAssociable(int number) {
        Frame frame = frameAt(number);
        // An associated frame has its byte 0 taken too, so this refuses it as well.
        return frame != null && frame.publisher != MASTER && (frame.taken & BYTE) == 0;
    }

    private static boolean areAlike(Frame[] row) {
        for (int i = 0; i < row.length; i++) {
            for (int j = 0; j < i; j++) {
                if (!row[i].isLike(row[j])) {
                    return false;
                }
            }
        }
        return true;
    }

    private boolean canResolveAll() {
        for (int i = 0; i < events.size(); i++) {
            Event event = events.get(i);
            if (!schedule.tables[event.table].canResolve(event)) {
                return false;
            }
        }
        return true;
    }

    private static int bit(int number, int place) {
        return (number >> place) & 1;
    }

    private static int protect(int i) {
        int even = bit(i, 0) ^ bit(i, 1) ^ bit(i, 2) ^ bit(i, 4);
        int odd = 1 - (bit(i, 1) ^ bit(i, 3) ^ bit(i, 4) ^ bit(i, 5));
        return i + 64 * even + 128 * odd;
    }

    private static int byteOf(long data, int k) {
        return (int) (data >>> (8 * k)) & BYTE;
    }

    private int runSlot(Entry entry) {
        wire.clear();
        switch (entry.kind) {
            case OF_FRAME:
                return runFrame(frames.get(entry.number));
            case OF_GROUP:
                return runGroup(groups.get(entry.number));
            default:
                return runEvent(events.get(entry.number));
        }
    }

    private int runFrame(Frame frame) {
        wire.add(frame.header);
        wire.respond(frame);
        if (!wire.isValidFor(frame)) {
            return NOT_VALID;
        }
        takeIn(frame);
        return RECEIVED;
    }

    private int runGroup(Group group) {
        Frame frame = group.firstPending();
        return frame == null ? SILENT : runFrame(frame);
    }

    private int runEvent(Event event) {
        wire.add(event.header);
        if (!event.hasPending()) {
            return SILENT;
        }
        int firstByte = event.firstByteOnBus();
        Frame sender = event.memberWith(firstByte);
        // A member that is not pending may bear just the byte that the others made together.
        if (sender != null && sender.isPending) {
            wire.respond(sender);
        } else {
            wire.breakOffAfter(firstByte);
        }
        Frame named = event.memberWith(wire.byteAt(1));
        if (named == null || !wire.isValidFor(named)) {
            schedule.resolveBy = event.table;
            return EVENT_NOT_VALID;
        }
        takeIn(named);
        return RECEIVED;
    }

    private void takeIn(Frame frame) {
        long data = wire.dataOf(frame.length);
        for (int i = 0; i < signals.size(); i++) {
            Signal signal = signals.get(i);
            if (signal.owner == frame) {
                signal.takeFrom(data);
            }
        }
        frame.isPending = false;
    }

    private static final class Frame {
        final int number;
        final int header;
        final int publisher;
        final int length;
        final boolean enhanced;
        /** Byte k in the bits from 8 * k on; bits without a signal are 1. */
        long data = -1L;
        /** The bits that no further signal may have. */
        long taken = 0L;
        boolean isPending = false;

        Frame(int number, int header, int publisher, int length, boolean enhanced) {
            this.number = number;
            this.header = header;
            this.publisher = publisher;
            this.length = length;
            this.enhanced = enhanced;
        }

        boolean isLike(Frame other) {
            return publisher != other.publisher && length == other.length && enhanced == other.enhanced;
        }

        void associate() {
            taken |= BYTE;
            data = (data & ~(long) BYTE) | header;
        }

        int checksumUnder(int sentHeader, long bytes) {
            int sum = enhanced ? sentHeader : 0;
            for (int k = 0; k < length; k++) {
                sum += byteOf(bytes, k);
                if (sum > BYTE) {
                    sum -= BYTE;
                }
            }
            return BYTE - sum;
        }
    }

    private static final class Signal {
        final Frame owner;
        final int offset;
        final int width;
        int received;
        boolean isFresh = false;

        Signal(Frame owner, int offset, int width, int value) {
            this.owner = owner;
            this.offset = offset;
            this.width = width;
            this.received = value;
        }

        long most() {
            return (1L << width) - 1;
        }

        long bits() {
            return most() << offset;
        }

        boolean canHold(int value) {
            return value >= 0 && value <= most();
        }

        void putWritten(int value) {
            owner.data = (owner.data & ~bits()) | ((long) value << offset);
        }

        void takeFrom(long bytes) {
            received = (int) ((bytes >>> offset) & most());
            isFresh = true;
        }
    }

    private static final class Group {
        final Frame[] members;

        Group(Frame[] members) {
            this.members = members;
        }

        Frame firstPending() {
            for (Frame member : members) {
                if (member.isPending) {
                    return member;
                }
            }
            return null;
        }
    }

    private static final class Event {
        final int header;
        final Frame[] members;
        final int table;

        Event(int header, Frame[] members, int table) {
            this.header = header;
            this.members = members;
            this.table = table;
        }

        boolean hasPending() {
            for (Frame member : members) {
                if (member.isPending) {
                    return true;
                }
            }
            return false;
        }

        /**
         * Members differ in byte 0, so whoever sees its own byte there is alone from then on:
         * no later byte has to be put together.
         */
        int firstByteOnBus() {
            int together = BYTE;
            for (Frame member : members) {
                if (member.isPending) {
                    together &= member.header;
                }
            }
            return together;
        }

        Frame memberWith(int firstByte) {
            for (Frame member : members) {
                if (member.header == firstByte) {
                    return member;
                }
            }
            return null;
        }
    }

    private static final class Entry {
        final int kind;
        final int number;
        final int delay;

        Entry(int kind, int number, int delay) {
            this.kind = kind;
            this.number = number;
            this.delay = delay;
        }
    }

    private static final class Table {
        final ArrayList<Entry> entries = new ArrayList<>();

        boolean canResolve(Event event) {
            for (Frame member : event.members) {
                if (!hasFrame(member.number)) {
                    return false;
                }
            }
            return hasFramesAlone();
        }

        boolean hasFramesAlone() {
            for (int i = 0; i < entries.size(); i++) {
                if (entries.get(i).kind != OF_FRAME) {
                    return false;
                }
            }
            return true;
        }

        boolean hasFrame(int number) {
            for (int i = 0; i < entries.size(); i++) {
                Entry entry = entries.get(i);
                if (entry.kind == OF_FRAME && entry.number == number) {
                    return true;
                }
            }
            return false;
        }
    }

    /** Which table is present and which of its entries is next. */
    private static final class Schedule {
        final Table[] tables = new Table[] {new Table(), new Table(), new Table()};
        int present = 0;
        int next = 0;
        boolean isResolving = false;
        int keptTable = 0;
        int keptNext = 0;
        int requested = NONE;
        /** The resolving table of the latest slot, when that slot calls for one. */
        int resolveBy = NONE;

        int sizeOf(int table) {
            return tables[table].entries.size();
        }

        boolean isAllDone() {
            return next >= sizeOf(present);
        }

        void begin(int table) {
            present = table;
            next = 0;
        }

        void passBoundary() {
            if (resolveBy != NONE) {
                beginResolving();
            } else if (isResolving && isAllDone()) {
                endResolving();
            }
            if (!isResolving && requested != NONE) {
                begin(requested);
                requested = NONE;
            }
            if (isAllDone()) {
                next = 0;
            }
        }

        void beginResolving() {
            keptTable = present;
            keptNext = next;
            begin(resolveBy);
            resolveBy = NONE;
            isResolving = true;
        }

        void endResolving() {
            present = keptTable;
            next = keptNext;
            isResolving = false;
        }

        /** Only behind a boundary; a table that is present is never empty. */
        Entry takeNext() {
            Entry entry = tables[present].entries.get(next);
            next++;
            return entry;
        }

        int place() {
            return 16 * present + next + (isResolving ? 64 : 0);
        }
    }

    /** The bytes of the latest slot as they are received, and the noise that waits for a response. */
    private static final class Wire {
        final int[] bytes = new int[MOST_BYTES + 2];
        int used = 0;
        int noiseByte = NONE;
        int noiseMask = 0;

        void clear() {
            used = 0;
        }

        void add(int value) {
            if (used < bytes.length) {
                bytes[used] = value;
                used++;
            }
        }

        int byteAt(int k) {
            return isWithin(k, 0, used - 1) ? bytes[k] : NONE;
        }

        void respond(Frame frame) {
            for (int k = 0; k < frame.length; k++) {
                add(byteOf(frame.data, k));
            }
            add(frame.checksumUnder(bytes[0], frame.data));
            disturb();
        }

        void breakOffAfter(int firstByte) {
            add(firstByte);
            disturb();
        }

        void disturb() {
            int k = noiseByte + 1;
            if (noiseByte != NONE && k < used) {
                bytes[k] ^= noiseMask;
            }
            noiseByte = NONE;
        }

        /** Only for a length that a frame can have. */
        long dataOf(int length) {
            long data = 0L;
            for (int k = length; k >= 1; k--) {
                data = (data << 8) | bytes[k];
            }
            return data;
        }

        boolean isValidFor(Frame frame) {
            int last = frame.length + 1;
            return used == last + 1
                && bytes[last] == frame.checksumUnder(bytes[0], dataOf(frame.length));
        }
    }
}
