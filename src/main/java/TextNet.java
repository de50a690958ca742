import java.util.Arrays;

/**
 * A net of switches for short airfield messages of a rigid form. What each method promises stands
 * in the document; the words used here (copy, frame, serial, held, ..) are the document's.
 */
public final class TextNet {
    private static final int SWITCHES = 6;
    private static final int LINES = 8;
    private static final int LINES_OF_A_SWITCH = 4;
    private static final int ENTRIES_OF_A_SWITCH = 16;
    private static final int MOST_MESSAGES = 200;
    private static final int MOST_ON_A_WIRE = 200;
    private static final int MOST_KEPT = 20;
    private static final int MOST_MINUTES = 1000;

    private static final int TEXT_ROOM = 1600;
    private static final int LETTERS = 8;
    private static final int MOST_ADDRESSES = 7;
    private static final int MOST_TEXT_LINES = 20;
    private static final int MOST_SIGNS = 69;
    private static final int NEWLINE = 10;
    private static final int BLANK = 32;
    private static final String PRIORITIES = "SDFGK";
    private static final int PRIORITY_COUNT = 5;
    private static final String OTHER_SIGNS = " -?:().,'/+=";
    private static final String CLOSING = "NNNN";
    private static final int NO_BYTE = -1;

    private static final int LAST_SERIAL = 999;
    private static final int EARLY_REACH = 400;
    private static final int MINUTES_TO_REMIND = 5;
    private static final int MINUTES_BETWEEN_REQUESTS = 3;
    private static final int NONE = -1;

    private static final int NOTHING = 0;
    private static final int TAKEN = 1;
    private static final int EARLY = 2;
    private static final int AGAIN = 3;
    private static final int ACKNOWLEDGEMENT = 4;
    private static final int REQUEST = 5;

    private final Draft draft = new Draft();
    private final Switch[] switches = new Switch[SWITCHES];
    private final Line[] lines = new Line[LINES];
    private final Message[] messages = new Message[MOST_MESSAGES];
    // Kept with the object since a copy is parted very often: the addresses for each line.
    private final int[] parts = new int[LINES];
    private int messageCount;
    private int minute;

    public TextNet() {
        for (int s = 0; s < SWITCHES; s++) {
            switches[s] = new Switch();
        }
    }

    public void line(int l, int a, int b) throws IllegalArgumentException {
        Switch one = switchAt(a);
        Switch other = switchAt(b);
        if (l < 0 || l >= LINES || lines[l] != null || a == b) {
            throw new IllegalArgumentException("no such line can be made");
        }
        if (one.lineCount >= LINES_OF_A_SWITCH || other.lineCount >= LINES_OF_A_SWITCH) {
            throw new IllegalArgumentException("a switch has four lines");
        }
        lines[l] = new Line(a, b);
        one.lineCount++;
        other.lineCount++;
    }

    public void route(int s, int one, int two, int length, int main, int alternate)
            throws IllegalArgumentException, IllegalStateException {
        Switch there = switchAt(s);
        long prefix = (one & 0xFFFFFFFFL) | ((long) two << 32);
        if (!isPrefix(prefix, length) || there.hasEntry(prefix)) {
            throw new IllegalArgumentException("no prefix, or one that has an entry");
        }
        if (!isLineOrNone(s, main) || !isLineOrNone(s, alternate)) {
            throw new IllegalArgumentException("no such line at this switch");
        }
        if (main == alternate && main != NONE) {
            throw new IllegalArgumentException("main and alternate are one line");
        }
        if (there.entryCount >= ENTRIES_OF_A_SWITCH) {
            throw new IllegalStateException("the switch has 16 entries");
        }
        there.addEntry(new Entry(prefix, length, main, alternate));
    }

    public void put(int i, int v) throws IllegalArgumentException {
        if (i < 0 || i >= TEXT_ROOM) {
            throw new IllegalArgumentException("no such byte");
        }
        draft.write(i, v);
    }

    public int file(int s, int length) throws IllegalArgumentException, IllegalStateException {
        switchAt(s);
        if (length < 0 || length > TEXT_ROOM) {
            throw new IllegalArgumentException("no such length");
        }
        if (messageCount >= MOST_MESSAGES) {
            throw new IllegalStateException("200 messages are filed");
        }
        if (!draft.isGood(length)) {
            return draft.fault;
        }
        Message message = draft.toMessage();
        messages[messageCount] = message;
        messageCount++;
        comeTo(s, message, message.allAddresses(), NONE);
        return messageCount;
    }

    public int send(int l, int channel) throws IllegalArgumentException {
        Line line = lineAt(l);
        Channel sending = line.channelAt(channel);
        return line.inService ? sending.sendNext(minute) : NOTHING;
    }

    public int carry(int l, int channel) throws IllegalArgumentException {
        Line line = lineAt(l);
        Channel forth = line.channelAt(channel);
        Channel back = line.channelAt(1 - channel);
        Frame frame = forth.wire.takeFirst();
        if (frame == null) {
            return NOTHING;
        }
        if (frame.copy != null) {
            return meet(frame, l, channel);
        }
        if (frame.isRequest) {
            back.sendAgainFrom(frame.serial, minute);
            return REQUEST;
        }
        back.freeUpTo(frame.serial);
        return ACKNOWLEDGEMENT;
    }

    public boolean disturb(int l, int channel, int how) throws IllegalArgumentException {
        Frames wire = lineAt(l).channelAt(channel).wire;
        if (how != 0 && how != 1) {
            throw new IllegalArgumentException("no such disturbance");
        }
        return how == 0 ? wire.takeFirst() != null : wire.doubleFirst();
    }

    public boolean serve(int l, boolean is) throws IllegalArgumentException {
        Line line = lineAt(l);
        if (line.inService == is) {
            return false;
        }
        line.inService = is;
        if (is) {
            takeHeld(line.a);
            takeHeld(line.b);
        } else {
            line.loseFrames();
        }
        return true;
    }

    public int time(int minutes) throws IllegalArgumentException {
        if (minutes < 0 || minutes > MOST_MINUTES) {
            throw new IllegalArgumentException("no such span");
        }
        minute += minutes;
        int again = 0;
        for (Line line : lines) {
            if (line != null && line.inService) {
                again += line.forth.remind(minute) + line.back.remind(minute);
            }
        }
        return again;
    }

    public int delivered(int s) throws IllegalArgumentException {
        return switchAt(s).deskCount;
    }

    public int read(int s, int k, int i) throws IllegalArgumentException {
        Message message = switchAt(s).messageOnDesk(k);
        return message == null ? NO_BYTE : message.byteAt(i);
    }

    public boolean arrived(int message, int k) throws IllegalArgumentException {
        if (message < 1 || message > messageCount) {
            throw new IllegalArgumentException("no such message");
        }
        Message asked = messages[message - 1];
        if (asked == null || k < 0 || k >= asked.addresses.length) {
            throw new IllegalArgumentException("no such address");
        }
        return asked.hasArrived(k);
    }

    public int channel(int l, int channel, int what) throws IllegalArgumentException {
        Channel asked = lineAt(l).channelAt(channel);
        if (what >= 0 && what < PRIORITY_COUNT) {
            return asked.queues[what].size;
        }
        switch (what) {
            case 5:
                return asked.kept.size;
            case 6:
                return asked.wire.size;
            case 7:
                return asked.nextSerial;
            case 8:
                return asked.expected;
            default:
                throw new IllegalArgumentException("nothing such of a channel");
        }
    }

    public int count(int s, int what) throws IllegalArgumentException {
        if (s == NONE) {
            return countOfAll(what);
        }
        Switch asked = switchAt(s);
        switch (what) {
            case 0:
                return asked.unknown;
            case 1:
                return asked.doubles;
            case 2:
                return asked.held.size;
            default:
                throw new IllegalArgumentException("nothing such of a switch");
        }
    }

    private int countOfAll(int what) {
        if (what == 3) {
            return minute;
        }
        if (what == 4) {
            return messageCount;
        }
        throw new IllegalArgumentException("nothing such of all");
    }

    private Switch switchAt(int s) {
        if (s < 0 || s >= SWITCHES) {
            throw new IllegalArgumentException("no such switch");
        }
        return switches[s];
    }

    private Line lineAt(int l) {
        if (!isLine(l)) {
            throw new IllegalArgumentException("no such line");
        }
        return lines[l];
    }

    private boolean isLine(int l) {
        return l >= 0 && l < LINES && lines[l] != null;
    }

    private boolean isLineOrNone(int s, int l) {
        return l == NONE || isLine(l) && lines[l].touches(s);
    }

    private boolean isOpen(int l, int cameBy) {
        return l != cameBy && isLine(l) && lines[l].inService;
    }

    /** A message frame is at the other end of its channel: the answer of carry. */
    private int meet(Frame frame, int l, int channel) {
        Line line = lineAt(l);
        Channel forth = line.channelAt(channel);
        Channel back = line.channelAt(1 - channel);
        int behind = Math.floorMod(frame.serial - forth.expected, LAST_SERIAL);
        if (behind == 0) {
            forth.expected = serialBehind(frame.serial);
            back.putAcknowledgement(frame.serial);
            int end = channel == 0 ? line.b : line.a;
            comeTo(end, frame.copy.message, frame.copy.addresses, l);
            return TAKEN;
        }
        if (behind <= EARLY_REACH) {
            back.putRequest(forth.expected, minute);
            return EARLY;
        }
        back.putAcknowledgement(serialAhead(forth.expected));
        return AGAIN;
    }

    /** Parts a copy's addresses, a set of bits, among desk, lines and the held ones. */
    private void comeTo(int s, Message message, int addresses, int cameBy) {
        Switch there = switchAt(s);
        Arrays.fill(parts, 0);
        int held = 0;
        for (int k = 0; k < message.addresses.length; k++) {
            int bit = 1 << k;
            if ((addresses & bit) == 0) {
                continue;
            }
            Entry entry = there.entryFor(message.addresses[k]);
            if (entry == null) {
                there.unknown++;
            } else if (entry.main == NONE) {
                there.deliver(message, k, s);
            } else {
                int l = isOpen(entry.main, cameBy) ? entry.main : entry.alternate;
                if (isOpen(l, cameBy)) {
                    parts[l] |= bit;
                } else {
                    held |= bit;
                }
            }
        }
        queueParts(s, message);
        if (held != 0) {
            there.held.add(new Copy(message, held, cameBy));
        }
    }

    private void queueParts(int s, Message message) {
        for (int l = 0; l < LINES; l++) {
            if (parts[l] != 0 && isLine(l)) {
                lines[l].channelFrom(s).queue(new Copy(message, parts[l], NONE));
            }
        }
    }

    /** Only those that are there at first, since what is held again goes behind them. */
    private void takeHeld(int s) {
        CopyList held = switchAt(s).held;
        int there = held.size;
        for (int n = 0; n < there; n++) {
            Copy copy = held.takeFirst();
            if (copy != null) {
                comeTo(s, copy.message, copy.addresses, copy.cameBy);
            }
        }
    }

    private static int serialBehind(int serial) {
        return serial == LAST_SERIAL ? 1 : serial + 1;
    }

    private static int serialAhead(int serial) {
        return serial == 1 ? LAST_SERIAL : serial - 1;
    }

    private static boolean isLetter(int b) {
        return b >= 'A' && b <= 'Z';
    }

    private static boolean isDigit(int b) {
        return b >= '0' && b <= '9';
    }

    private static boolean isSign(int b) {
        return isLetter(b) || isDigit(b) || b >= 0 && OTHER_SIGNS.indexOf((char) b) >= 0;
    }

    /** The bytes of so many letters, the first letter being the lowest byte. */
    private static long maskOf(int letters) {
        return letters >= LETTERS ? -1L : (1L << (8 * letters)) - 1;
    }

    private static boolean isPrefix(long prefix, int length) {
        if (length < 1 || length > LETTERS || (prefix & ~maskOf(length)) != 0) {
            return false;
        }
        for (int k = 0; k < length; k++) {
            if (!isLetter((int) (prefix >>> (8 * k)) & 255)) {
                return false;
            }
        }
        return true;
    }

    /** The text that is to be filed, with the judge of its form. */
    private static final class Draft {
        final byte[] bytes = new byte[TEXT_ROOM];
        final long[] addresses = new long[MOST_ADDRESSES];
        int addressCount;
        int priority;
        int length;
        int place;
        int fault;

        void write(int i, int v) {
            for (int k = 0; k < 4; k++) {
                int at = i + k;
                if (at >= 0 && at < TEXT_ROOM) {
                    bytes[at] = (byte) (v >>> (8 * k));
                }
            }
        }

        /** If the first bytes are not good, fault is the answer of file. */
        boolean isGood(int first) {
            length = first;
            addressCount = 0;
            return readPriority() && readAddresses() && readOrigin() && readLines();
        }

        Message toMessage() {
            byte[] text = Arrays.copyOf(bytes, length);
            return new Message(text, Arrays.copyOf(addresses, addressCount), priority);
        }

        /** Behind the end there is NO_BYTE, which is never as it should be. */
        int byteAt(int i) {
            return i >= 0 && i < length && i < TEXT_ROOM ? bytes[i] & 255 : NO_BYTE;
        }

        boolean tell(int rule, int at) {
            fault = -1 - 10 * at - rule;
            return false;
        }

        boolean readPriority() {
            int first = byteAt(0);
            int second = byteAt(1);
            priority = first < 0 ? NONE : PRIORITIES.indexOf((char) first);
            if (priority < 0) {
                return tell(1, 0);
            }
            if (second == NO_BYTE) {
                return tell(1, 1);
            }
            if (second != first) {
                return tell(1, 0);
            }
            place = 2;
            return readByte(NEWLINE, 1);
        }

        boolean readAddresses() {
            for (int k = 0; k < MOST_ADDRESSES; k++) {
                int start = place;
                if (!readLetters(2)) {
                    return false;
                }
                long address = lettersFrom(start);
                if (isThere(address)) {
                    return tell(3, start);
                }
                addresses[k] = address;
                addressCount = k + 1;
                if (byteAt(place) == NEWLINE) {
                    place++;
                    return true;
                }
                if (!readByte(BLANK, 2)) {
                    return false;
                }
            }
            return tell(4, place - 1);
        }

        boolean isThere(long address) {
            for (int k = 0; k < addressCount && k < MOST_ADDRESSES; k++) {
                if (addresses[k] == address) {
                    return true;
                }
            }
            return false;
        }

        long lettersFrom(int start) {
            long letters = 0;
            for (int k = 0; k < LETTERS; k++) {
                letters |= (byteAt(start + k) & 255L) << (8 * k);
            }
            return letters;
        }

        boolean readOrigin() {
            return readNumber(1, 31) && readNumber(0, 23) && readNumber(0, 59)
                    && readByte(BLANK, 5) && readLetters(5) && readByte(NEWLINE, 5);
        }

        boolean readNumber(int least, int most) {
            int first = byteAt(place);
            int second = byteAt(place + 1);
            if (!isDigit(first)) {
                return tell(5, place);
            }
            if (!isDigit(second)) {
                return tell(5, place + 1);
            }
            int number = 10 * (first - '0') + second - '0';
            if (number < least || number > most) {
                return tell(5, place);
            }
            place += 2;
            return true;
        }

        boolean readByte(int due, int rule) {
            if (byteAt(place) != due) {
                return tell(rule, place);
            }
            place++;
            return true;
        }

        boolean readLetters(int rule) {
            for (int k = 0; k < LETTERS; k++) {
                if (!isLetter(byteAt(place))) {
                    return tell(rule, place);
                }
                place++;
            }
            return true;
        }

        boolean readLines() {
            for (int n = 0; n < MOST_TEXT_LINES && !isClosing(); n++) {
                if (!readLine()) {
                    return false;
                }
            }
            if (!isClosing()) {
                return tell(7, place);
            }
            int end = place + CLOSING.length();
            return byteAt(end) == NO_BYTE || tell(8, end);
        }

        /** With anything but a newline behind it, NNNN only begins a line as others. */
        boolean isClosing() {
            int end = CLOSING.length();
            for (int k = 0; k < end; k++) {
                if (byteAt(place + k) != CLOSING.charAt(k)) {
                    return false;
                }
            }
            int behind = byteAt(place + end);
            return behind == NO_BYTE || behind == NEWLINE;
        }

        boolean readLine() {
            int signs = 0;
            while (signs < MOST_SIGNS && isSign(byteAt(place))) {
                signs++;
                place++;
            }
            return signs == 0 ? tell(6, place) : readByte(NEWLINE, 6);
        }
    }

    private static final class Message {
        final byte[] text;
        final long[] addresses;
        final int priority;
        int arrivedFor;
        int desks;

        Message(byte[] text, long[] addresses, int priority) {
            this.text = text;
            this.addresses = addresses;
            this.priority = priority;
        }

        int allAddresses() {
            return (1 << addresses.length) - 1;
        }

        boolean hasArrived(int k) {
            return (arrivedFor & 1 << k) != 0;
        }

        int byteAt(int i) {
            return i >= 0 && i < text.length ? text[i] & 255 : NO_BYTE;
        }
    }

    /** A message with some of its addresses, as bits; it stands in one list at a time. */
    private static final class Copy {
        final Message message;
        final int addresses;
        final int cameBy;
        Copy next;

        Copy(Message message, int addresses, int cameBy) {
            this.message = message;
            this.addresses = addresses;
            this.cameBy = cameBy;
        }
    }

    /** Copies, the oldest first. */
    private static final class CopyList {
        Copy first;
        Copy last;
        int size;

        void add(Copy copy) {
            if (last == null) {
                first = copy;
            } else {
                last.next = copy;
            }
            last = copy;
            size++;
        }

        Copy takeFirst() {
            Copy taken = first;
            if (taken == null) {
                return null;
            }
            first = taken.next;
            if (first == null) {
                last = null;
            }
            taken.next = null;
            size--;
            return taken;
        }
    }

    /** A message frame has a copy; the others have none. */
    private static final class Frame {
        final int serial;
        final Copy copy;
        final boolean isRequest;

        Frame(int serial, Copy copy, boolean isRequest) {
            this.serial = serial;
            this.copy = copy;
            this.isRequest = isRequest;
        }
    }

    /** A ring of frames, the oldest first; what would be more than it holds is lost. */
    private static final class Frames {
        final Frame[] ring;
        int start;
        int size;

        Frames(int most) {
            ring = new Frame[Math.max(most, 1)];
        }

        boolean isFull() {
            return size >= ring.length;
        }

        int placeOf(int k) {
            int place = start + k;
            return place < ring.length ? place : place - ring.length;
        }

        Frame frameAt(int k) {
            return k >= 0 && k < size ? ring[placeOf(k)] : null;
        }

        int indexOf(int serial) {
            for (int k = 0; k < size; k++) {
                Frame frame = frameAt(k);
                if (frame != null && frame.serial == serial) {
                    return k;
                }
            }
            return NONE;
        }

        void add(Frame frame) {
            if (!isFull()) {
                ring[placeOf(size)] = frame;
                size++;
            }
        }

        Frame takeFirst() {
            Frame taken = frameAt(0);
            if (taken != null) {
                start = placeOf(1);
                size--;
            }
            return taken;
        }

        /** The second one may as well be put ahead of the first: they are the same. */
        boolean doubleFirst() {
            Frame first = frameAt(0);
            if (first == null || isFull()) {
                return false;
            }
            start = placeOf(ring.length - 1);
            ring[start] = first;
            size++;
            return true;
        }

        void loseAll() {
            start = 0;
            size = 0;
        }
    }

    /** One way of a line, with what its sending end keeps and its other end expects. */
    private static final class Channel {
        final CopyList[] queues = new CopyList[PRIORITY_COUNT];
        final Frames kept = new Frames(MOST_KEPT);
        final Frames wire = new Frames(MOST_ON_A_WIRE);
        int nextSerial = 1;
        int expected = 1;
        int messagePutAt;
        int requestPutAt = -MINUTES_BETWEEN_REQUESTS;

        Channel() {
            for (int p = 0; p < PRIORITY_COUNT; p++) {
                queues[p] = new CopyList();
            }
        }

        void queue(Copy copy) {
            int p = copy.message.priority;
            if (p >= 0 && p < PRIORITY_COUNT) {
                queues[p].add(copy);
            }
        }

        Copy takeMostUrgent() {
            for (int p = 0; p < PRIORITY_COUNT; p++) {
                Copy copy = queues[p].takeFirst();
                if (copy != null) {
                    return copy;
                }
            }
            return null;
        }

        int sendNext(int minute) {
            if (kept.isFull()) {
                return NOTHING;
            }
            Copy copy = takeMostUrgent();
            if (copy == null) {
                return NOTHING;
            }
            int serial = nextSerial;
            nextSerial = serialBehind(serial);
            Frame frame = new Frame(serial, copy, false);
            kept.add(frame);
            putMessage(frame, minute);
            return serial;
        }

        /** The minute counts also if the wire is full and the frame is lost. */
        void putMessage(Frame frame, int minute) {
            wire.add(frame);
            messagePutAt = minute;
        }

        void putAcknowledgement(int serial) {
            wire.add(new Frame(serial, null, false));
        }

        void putRequest(int serial, int minute) {
            if (minute - requestPutAt >= MINUTES_BETWEEN_REQUESTS) {
                wire.add(new Frame(serial, null, true));
                requestPutAt = minute;
            }
        }

        void freeUpTo(int serial) {
            int last = kept.indexOf(serial);
            for (int k = 0; k <= last; k++) {
                kept.takeFirst();
            }
        }

        void sendAgainFrom(int serial, int minute) {
            int from = kept.indexOf(serial);
            if (from == NONE) {
                return;
            }
            for (int k = from; k < kept.size; k++) {
                putMessage(kept.frameAt(k), minute);
            }
        }

        /** How many frames were put again: one, or none if it is not yet time. */
        int remind(int minute) {
            Frame oldest = kept.frameAt(0);
            if (oldest == null || minute - messagePutAt < MINUTES_TO_REMIND) {
                return 0;
            }
            putMessage(oldest, minute);
            return 1;
        }
    }

    private static final class Line {
        final int a;
        final int b;
        final Channel forth = new Channel();
        final Channel back = new Channel();
        boolean inService = true;

        Line(int a, int b) {
            this.a = a;
            this.b = b;
        }

        boolean touches(int s) {
            return s == a || s == b;
        }

        Channel channelAt(int number) {
            if (number != 0 && number != 1) {
                throw new IllegalArgumentException("no such channel");
            }
            return number == 0 ? forth : back;
        }

        Channel channelFrom(int s) {
            return s == a ? forth : back;
        }

        void loseFrames() {
            forth.wire.loseAll();
            back.wire.loseAll();
        }
    }

    private static final class Entry {
        final long prefix;
        final int length;
        final int main;
        final int alternate;

        Entry(long prefix, int length, int main, int alternate) {
            this.prefix = prefix;
            this.length = length;
            this.main = main;
            this.alternate = alternate;
        }

        boolean begins(long address) {
            return (address & maskOf(length)) == prefix;
        }
    }

    private static final class Switch {
        final Entry[] entries = new Entry[ENTRIES_OF_A_SWITCH];
        final Message[] desk = new Message[MOST_MESSAGES];
        final CopyList held = new CopyList();
        int entryCount;
        int deskCount;
        int lineCount;
        int unknown;
        int doubles;

        void addEntry(Entry entry) {
            if (entryCount < ENTRIES_OF_A_SWITCH) {
                entries[entryCount] = entry;
                entryCount++;
            }
        }

        /** Letters are never 0, so a prefix has its length in itself. */
        boolean hasEntry(long prefix) {
            for (Entry entry : entries) {
                if (entry != null && entry.prefix == prefix) {
                    return true;
                }
            }
            return false;
        }

        Entry entryFor(long address) {
            Entry longest = null;
            for (Entry entry : entries) {
                if (entry != null && entry.begins(address)
                        && (longest == null || entry.length > longest.length)) {
                    longest = entry;
                }
            }
            return longest;
        }

        void deliver(Message message, int k, int s) {
            if (message.hasArrived(k)) {
                doubles++;
                return;
            }
            message.arrivedFor |= 1 << k;
            boolean isFirst = (message.desks & 1 << s) == 0;
            if (isFirst && deskCount < MOST_MESSAGES) {
                message.desks |= 1 << s;
                desk[deskCount] = message;
                deskCount++;
            }
        }

        Message messageOnDesk(int k) {
            return k >= 0 && k < deskCount && k < MOST_MESSAGES ? desk[k] : null;
        }
    }
}
