import java.util.ArrayList;

/** Tags in a field, asked bit by bit. The names and numbers are those of the document's terms. */
public final class TagField {
    public static final int NONE = -1;
    public static final int UNKNOWN = -11, OUTSIDE = -12, STATE = -13, ROOM = -14;

    private static final int MOST_TAGS = 16;
    private static final int MOST_TYPED = 160;
    private static final int MOST_FOUND = 40;

    private static final int OCTET = 9;
    private static final int SHORT = 7;
    private static final int REQUEST = 0x26;
    private static final int WAKE = 0x52;
    private static final int NO_BITS_TOLD = 0x20;
    private static final int CHOOSE = 0x70;
    private static final int HALT = 0x50;
    private static final int ACTIVATE = 0xE0;
    private static final int RELEASE = 0xC2;
    private static final int ONE_MORE_LEVEL = 0x04;
    private static final int NO_MORE_LEVEL = 0x20;

    private static final int LEVELS = 3;
    private static final int MORE_TO_COME = 136;
    private static final int SHOWN_BITS = 40;
    private static final int LONGEST_NUMBER = 10;

    private final Row typed;
    private final Answer latest;
    private final Air air;
    private final Reader reader;

    public TagField() {
        typed = new Row(MOST_TYPED);
        latest = new Answer();
        air = new Air();
        reader = new Reader();
    }

    public int tag(int size, int a, int b, int c) {
        if (size != 4 && size != 7 && size != 10) {
            return OUTSIDE;
        }
        Tag more = new Tag(size, a, b, c);
        if (more.looksUnfinished() || air.knowsNumberOf(more)) {
            return STATE;
        }
        return air.count() < MOST_TAGS ? air.bring(more) : ROOM;
    }

    public int out(int tag, boolean is) {
        return air.knows(tag) ? air.move(tag, is) : UNKNOWN;
    }

    public int field(boolean on) {
        return air.turn(on);
    }

    public int bits(int v, int n) {
        if (n < 1 || n > 32) {
            return OUTSIDE;
        }
        if (!typed.hasRoomFor(n)) {
            return ROOM;
        }
        typed.addBits(v, n);
        return typed.size;
    }

    public int octet(int v) {
        if (!typed.hasRoomFor(OCTET)) {
            return ROOM;
        }
        typed.addOctet(v);
        return typed.size;
    }

    public int check() {
        int octets = typed.size / OCTET;
        if (octets < 1 || typed.size % OCTET != 0 || !typed.beginsWithOctets(octets)) {
            return STATE;
        }
        if (!typed.hasRoomFor(2 * OCTET)) {
            return ROOM;
        }
        typed.addCheck();
        return typed.size;
    }

    public int go() {
        int length = air.send(typed, latest);
        typed.clear();
        return length;
    }

    public int answer(int i) {
        return latest.bitAt(i);
    }

    public int state(int tag) {
        return air.knows(tag) ? air.stateOf(tag) : UNKNOWN;
    }

    public int round() {
        reader.forget();
        for (int i = 0; i < MOST_FOUND; i++) {
            if (!reader.findOne(air)) {
                break;
            }
        }
        return reader.count;
    }

    public int found(int i, int k) {
        return reader.byteFound(i, k);
    }

    public int frames() {
        return air.sent;
    }

    /** What frames and answers are made of; a few bytes stand in a long, the first one lowest. */
    private static final class Code {
        private static final int CHECK_OF_NOTHING = 0x6363;

        static long octetsOf(long bytes, int n) {
            long octets = 0;
            for (int i = 0; i < n; i++) {
                long b = (bytes >>> (8 * i)) & 255;
                long parity = 1 - Long.bitCount(b) % 2;
                octets |= (b | parity << 8) << (OCTET * i);
            }
            return octets;
        }

        static int checkStep(int x, int b) {
            int y = b ^ (x & 255);
            y = (y ^ (y << 4)) & 255;
            return ((x >>> 8) ^ (y << 8) ^ (y << 3) ^ (y >>> 4)) & 0xFFFF;
        }

        static long checkedOctetsOf(long bytes, int n) {
            int x = CHECK_OF_NOTHING;
            for (int i = 0; i < n; i++) {
                x = checkStep(x, (int) (bytes >>> (8 * i)) & 255);
            }
            return octetsOf(bytes | (long) x << (8 * n), n + 2);
        }
    }

    /** A row of bits that grows up to its room. */
    private static final class Row {
        private final int[] bits;
        private int size;

        Row(int room) {
            bits = new int[room];
        }

        void clear() {
            size = 0;
        }

        boolean hasRoomFor(int more) {
            return size + more <= bits.length;
        }

        void addBits(int v, int n) {
            for (int i = 0; i < n && size < bits.length; i++) {
                bits[size] = (v >>> i) & 1;
                size++;
            }
        }

        void addOctet(int v) {
            addBits((int) Code.octetsOf(v, 1), OCTET);
        }

        void addCheck() {
            int x = checkOf(size / OCTET);
            addOctet(x);
            addOctet(x >>> 8);
        }

        int valueAt(int from, int n) {
            int v = 0;
            for (int i = 0; i < n && from + i < size; i++) {
                v |= bits[from + i] << i;
            }
            return v;
        }

        boolean beginsWithOctets(int n) {
            for (int i = 0; i < n; i++) {
                if (Integer.bitCount(valueAt(OCTET * i, OCTET)) % 2 == 0) {
                    return false;
                }
            }
            return true;
        }

        int checkOf(int octets) {
            int x = Code.CHECK_OF_NOTHING;
            for (int i = 0; i < octets; i++) {
                x = Code.checkStep(x, valueAt(OCTET * i, 8));
            }
            return x;
        }
    }

    private enum Kind { BAD, REQUEST, WAKE, SEARCH, CHOOSE, HALT, ACTIVATE, RELEASE }

    /** What a row of bits means to a tag. */
    private static final class Frame {
        private Kind kind = Kind.BAD;
        private int level;
        private int second;
        private long told;
        private int toldCount;

        void read(Row row) {
            int octets = row.size / OCTET;
            int over = row.size % OCTET;
            int first = row.valueAt(0, 8);
            second = row.valueAt(OCTET, 8);
            level = levelOf(first);
            if (row.size == SHORT) {
                kind = kindOfShort(first);
            } else if (octets < 2 || !row.beginsWithOctets(octets)) {
                kind = Kind.BAD;
            } else if (level > 0 && octets <= 6 && over <= 7 && second == 16 * octets + over) {
                kind = Kind.SEARCH;
                readTold(row, octets - 2, over);
            } else if (over > 0 || row.checkOf(octets) != 0) {
                // Going on over its own two check bytes brings a check to 0; no other two do.
                kind = Kind.BAD;
            } else if (level > 0 && octets == 9 && second == CHOOSE) {
                kind = Kind.CHOOSE;
                readTold(row, 5, 0);
            } else {
                kind = kindOfCommand(first, octets);
            }
        }

        private static Kind kindOfShort(int v) {
            if (v == REQUEST) {
                return Kind.REQUEST;
            }
            return v == WAKE ? Kind.WAKE : Kind.BAD;
        }

        private Kind kindOfCommand(int first, int octets) {
            if (first == HALT && octets == 4 && second == 0) {
                return Kind.HALT;
            }
            if (first == ACTIVATE && octets == 4) {
                return Kind.ACTIVATE;
            }
            return first == RELEASE && octets == 3 ? Kind.RELEASE : Kind.BAD;
        }

        private void readTold(Row row, int bytes, int over) {
            told = 0;
            for (int i = 0; i < bytes; i++) {
                told |= (long) row.valueAt(OCTET * (2 + i), 8) << (8 * i);
            }
            told |= (long) row.valueAt(OCTET * (2 + bytes), over) << (8 * bytes);
            toldCount = 8 * bytes + over;
        }

        private static int levelOf(int first) {
            for (int level = 1; level <= LEVELS; level++) {
                if (first == levelByte(level)) {
                    return level;
                }
            }
            return 0;
        }

        static int levelByte(int level) {
            return 0x91 + 2 * level;
        }
    }

    /** Answers that lie on one another: where ones and zeros are both set, tags collide. */
    private static final class Answer {
        private long ones;
        private long zeros;
        private int length;

        void clear() {
            ones = 0;
            zeros = 0;
            length = 0;
        }

        void lay(long bits, int n) {
            long sent = (1L << n) - 1;
            ones |= bits & sent;
            zeros |= ~bits & sent;
            length = Math.max(length, n);
        }

        int bitAt(int i) {
            if (i < 0 || i >= length) {
                return NONE;
            }
            boolean one = ((ones >>> i) & 1) == 1;
            boolean zero = ((zeros >>> i) & 1) == 1;
            if (one && zero) {
                return 2;
            }
            return one ? 1 : 0;
        }

        boolean beginsWith(int b) {
            return (ones & 255) == b && (zeros & 255) == (b ^ 255);
        }
    }

    private enum Reply { NOTHING, A, REST, B_MORE, B_LAST, C, D }

    /** A tag: its number as it shows it, and its way through the table of states. */
    private static final class Tag {
        private static final int OUT = 0;
        private static final int IDLE = 1;
        private static final int READY = 2;
        private static final int ACTIVE = 3;
        private static final int HALTED = 4;
        private static final int WOKEN_READY = 5;
        private static final int WOKEN_ACTIVE = 6;
        private static final int PROTOCOL = 7;

        private final int levels;
        private final long[] shown;
        private boolean away = false;
        private int state = OUT;
        private int level = 1;

        Tag(int size, int a, int b, int c) {
            levels = (size - 1) / 3;
            shown = new long[LEVELS];
            for (int i = 0; i < levels; i++) {
                shown[i] = shownAt(i, i == levels - 1, a, b, c);
            }
        }

        private static long shownAt(int i, boolean last, int a, int b, int c) {
            long four = last ? 0 : MORE_TO_COME;
            int filled = last ? 0 : 1;
            for (int k = 0; filled + k < 4; k++) {
                four |= (long) numberByte(3 * i + k, a, b, c) << (8 * (filled + k));
            }
            long fifth = (four ^ (four >>> 8) ^ (four >>> 16) ^ (four >>> 24)) & 255;
            return four | fifth << 32;
        }

        private static int numberByte(int k, int a, int b, int c) {
            int word = k < 4 ? a : k < 8 ? b : c;
            return (word >>> (24 - 8 * (k % 4))) & 255;
        }

        boolean looksUnfinished() {
            return (shown[levels - 1] & 255) == MORE_TO_COME;
        }

        boolean hasNumberOf(Tag other) {
            // Levels beyond a tag's last one are 0 in both, so the whole rows may be compared.
            for (int i = 0; i < LEVELS; i++) {
                if (shown[i] != other.shown[i]) {
                    return false;
                }
            }
            return levels == other.levels;
        }

        boolean move(boolean is, boolean on) {
            if (away == is) {
                return false;
            }
            away = is;
            beginAnew(on);
            return true;
        }

        void beginAnew(boolean on) {
            state = on && !away ? IDLE : OUT;
        }

        int stateAndLevel() {
            boolean ready = state == READY || state == WOKEN_READY;
            return ready ? state + 10 * (level - 1) : state;
        }

        /** Goes on in the table of states, and tells which answer is due. */
        Reply hear(Frame frame) {
            switch (state) {
                case IDLE:
                    boolean called = frame.kind == Kind.REQUEST || frame.kind == Kind.WAKE;
                    return called ? becomeReady(READY) : Reply.NOTHING;
                case HALTED:
                    return frame.kind == Kind.WAKE ? becomeReady(WOKEN_READY) : Reply.NOTHING;
                case READY:
                case WOKEN_READY:
                    return hearReady(frame);
                case ACTIVE:
                case WOKEN_ACTIVE:
                    return hearActive(frame);
                case PROTOCOL:
                    return frame.kind == Kind.RELEASE ? become(HALTED, Reply.D) : Reply.NOTHING;
                default:
                    return Reply.NOTHING;
            }
        }

        private Reply become(int next, Reply reply) {
            state = next;
            return reply;
        }

        private Reply becomeReady(int ready) {
            level = 1;
            return become(ready, Reply.A);
        }

        private Reply hearReady(Frame frame) {
            boolean mine = frame.level == level;
            if (frame.kind == Kind.SEARCH && mine) {
                return showsWhatIsTold(frame) ? Reply.REST : Reply.NOTHING;
            }
            if (frame.kind == Kind.CHOOSE && mine && showsWhatIsTold(frame)) {
                return becomeChosen();
            }
            return goBack();
        }

        private boolean showsWhatIsTold(Frame frame) {
            long compared = (1L << frame.toldCount) - 1;
            return ((shown[level - 1] ^ frame.told) & compared) == 0;
        }

        private Reply becomeChosen() {
            if (level < levels) {
                level++;
                return Reply.B_MORE;
            }
            state = state == READY ? ACTIVE : WOKEN_ACTIVE;
            return Reply.B_LAST;
        }

        private Reply hearActive(Frame frame) {
            if (frame.kind == Kind.HALT) {
                return become(HALTED, Reply.NOTHING);
            }
            return frame.kind == Kind.ACTIVATE ? become(PROTOCOL, Reply.C) : goBack();
        }

        private Reply goBack() {
            state = state == READY || state == ACTIVE ? IDLE : HALTED;
            return Reply.NOTHING;
        }

        void say(Reply reply, Frame frame, Answer answer) {
            switch (reply) {
                case A:
                    answer.lay(Code.octetsOf(0x04 + 0x40 * (levels - 1), 2), 2 * OCTET);
                    break;
                case REST:
                    int passed = frame.toldCount + frame.toldCount / 8;
                    long octets = Code.octetsOf(shown[level - 1], 5);
                    answer.lay(octets >>> passed, 5 * OCTET - passed);
                    break;
                case B_MORE:
                    answer.lay(Code.checkedOctetsOf(ONE_MORE_LEVEL, 1), 3 * OCTET);
                    break;
                case B_LAST:
                    answer.lay(Code.checkedOctetsOf(NO_MORE_LEVEL, 1), 3 * OCTET);
                    break;
                case C:
                    long bytes = 0x03 | 0x02 << 8 | frame.second << 16;
                    answer.lay(Code.checkedOctetsOf(bytes, 3), 5 * OCTET);
                    break;
                case D:
                    answer.lay(Code.checkedOctetsOf(RELEASE, 1), 3 * OCTET);
                    break;
                default:
                    break;
            }
        }
    }

    /** The field with all tags, those that are out of it too. */
    private static final class Air {
        private final ArrayList<Tag> tags = new ArrayList<>();
        private final Frame frame = new Frame();
        private boolean on = true;
        private int sent;

        int count() {
            return tags.size();
        }

        boolean knows(int tag) {
            return tag >= 1 && tag <= tags.size();
        }

        boolean knowsNumberOf(Tag one) {
            for (int i = 0; i < tags.size(); i++) {
                if (tags.get(i).hasNumberOf(one)) {
                    return true;
                }
            }
            return false;
        }

        int bring(Tag more) {
            more.beginAnew(on);
            tags.add(more);
            return tags.size();
        }

        int move(int tag, boolean is) {
            return tags.get(tag - 1).move(is, on) ? 1 : 0;
        }

        int turn(boolean to) {
            if (on == to) {
                return 0;
            }
            on = to;
            for (int i = 0; i < tags.size(); i++) {
                tags.get(i).beginAnew(on);
            }
            return 1;
        }

        int stateOf(int tag) {
            return tags.get(tag - 1).stateAndLevel();
        }

        /** Sends also while the field is off: all tags are OUT then, and hear nothing. */
        int send(Row row, Answer answer) {
            sent++;
            answer.clear();
            frame.read(row);
            for (int i = 0; i < tags.size(); i++) {
                Tag tag = tags.get(i);
                tag.say(tag.hear(frame), frame, answer);
            }
            return answer.length;
        }
    }

    /** Who makes the rounds: it knows of the tags only what their answers tell. */
    private static final class Reader {
        private final Row row = new Row(9 * OCTET);
        private final Answer heard = new Answer();
        private final int[] numbers = new int[MOST_FOUND * LONGEST_NUMBER];
        private final int[] sizes = new int[MOST_FOUND];
        private int count;
        private long known;
        private int knownCount;

        void forget() {
            count = 0;
        }

        int byteFound(int i, int k) {
            if (i < 0 || i >= count || k < 0 || k >= sizes[i]) {
                return NONE;
            }
            return numbers[LONGEST_NUMBER * i + k];
        }

        /** From REQUEST to HALT; false when the round ends on the way. */
        boolean findOne(Air air) {
            row.clear();
            row.addBits(REQUEST, SHORT);
            if (count >= MOST_FOUND || air.send(row, heard) == 0) {
                return false;
            }
            sizes[count] = 0;
            for (int level = 1; level <= LEVELS; level++) {
                if (!searchLevel(level, air) || !choose(level, air)) {
                    return false;
                }
                boolean last = !heard.beginsWith(ONE_MORE_LEVEL);
                keepBytes(last ? 0 : 1);
                if (last) {
                    count++;
                    halt(air);
                    return true;
                }
            }
            return false;
        }

        private boolean searchLevel(int level, Air air) {
            known = 0;
            knownCount = 0;
            // A search that is answered tells one bit more at least.
            for (int i = 0; i < SHOWN_BITS && knownCount < SHOWN_BITS; i++) {
                layOutSearch(level);
                if (air.send(row, heard) == 0) {
                    return false;
                }
                learn();
            }
            return true;
        }

        private void layOutSearch(int level) {
            int bytes = knownCount / 8;
            int over = knownCount % 8;
            row.clear();
            row.addOctet(Frame.levelByte(level));
            row.addOctet(NO_BITS_TOLD + 16 * bytes + over);
            for (int i = 0; i < bytes; i++) {
                row.addOctet(knownByte(i));
            }
            row.addBits(knownByte(bytes), over);
        }

        /** Takes the answered bits up to the first collision, passing parities, and a 1 there. */
        private void learn() {
            int passed = knownCount + knownCount / 8;
            boolean collision = false;
            while (knownCount < SHOWN_BITS && !collision) {
                int bit = heard.bitAt(knownCount + knownCount / 8 - passed);
                collision = bit == 2;
                if (bit > 0) {
                    known |= 1L << knownCount;
                }
                knownCount++;
            }
        }

        private boolean choose(int level, Air air) {
            row.clear();
            row.addOctet(Frame.levelByte(level));
            row.addOctet(CHOOSE);
            for (int i = 0; i < 5; i++) {
                row.addOctet(knownByte(i));
            }
            row.addCheck();
            return air.send(row, heard) > 0;
        }

        private void halt(Air air) {
            row.clear();
            row.addOctet(HALT);
            row.addOctet(0);
            row.addCheck();
            air.send(row, heard);
        }

        private int knownByte(int i) {
            return (int) (known >>> (8 * i)) & 255;
        }

        private void keepBytes(int from) {
            for (int i = from; i < 4; i++) {
                numbers[LONGEST_NUMBER * count + sizes[count]] = knownByte(i);
                sizes[count]++;
            }
        }
    }
}
