import java.util.Arrays;

/** The terms' FRAMES: which rows of bits they are, and that all others are BAD. */
public final class FrameTest {
    private static final int[] READY = {2, 12, 22, 5, 15, 25};
    private static final int[] ACTIVE = {3, 6};

    public static void main(String[] args) {
        shortFrames();
        shortFramesHaveSevenBits();
        searchNamesItsLevel();
        searchTellsHowManyBits();
        searchIsAsLongAsItTells();
        chooseNamesItsLevel();
        chooseHasFiveOctets();
        haltHasAZero();
        activateHasAnyByte();
        releaseHasNone();
        allOthers();
        wrongParities();
        wrongCheckBytes();
        allWrongCheckBytes();
        badAfterAnyOther();
        Desk.end();
    }

    /** To a tag of ten bytes in a state a row is sent: how many bits are answered, which state is next. */
    private static void leads(int state, String row, int length, int next) {
        Desk desk = new Desk();
        Way.bringTo(desk, state);
        Desk.due("(" + row + ") in state " + state, desk.send(row), length);
        Desk.due("its state", desk.field.state(1), next);
    }

    private static void bad(int state, String row) {
        leads(state, row, 0, Way.back(state));
    }

    private static String lowestFirst(int v, int n) {
        StringBuilder text = new StringBuilder();
        for (int i = 0; i < n; i++) {
            text.append(v >> i & 1);
        }
        return text.toString();
    }

    private static String flipped(String row, int i) {
        StringBuilder wrong = new StringBuilder(row);
        wrong.setCharAt(i, row.charAt(i) == '0' ? '1' : '0');
        return wrong.toString();
    }

    /** The bytes of a CHOOSE for a level, without check bytes. */
    private static int[] chooseBytes(int level) {
        int[] five = Way.SHOWN[level - 1];
        return new int[] {0x91 + 2 * level, 0x70, five[0], five[1], five[2], five[3], five[4]};
    }

    private static int[] with(int[] bytes, int i, int b) {
        int[] other = bytes.clone();
        other[i] = b;
        return other;
    }

    private static void shortFrames() {
        Desk.sentence("Terms", "SHORT: seven bits, lowest first: 26 REQUEST, 52 WAKE");
        for (int v = 0; v < 128; v++) {
            boolean wake = v == 0x52;
            boolean called = v == 0x26 || wake;
            leads(1, lowestFirst(v, 7), called ? 18 : 0, called ? 2 : 1);
            leads(4, lowestFirst(v, 7), wake ? 18 : 0, wake ? 5 : 4);
        }
    }

    private static void shortFramesHaveSevenBits() {
        Desk.sentence("Terms", "SHORT: seven bits");
        for (int v : new int[] {0x26, 0x52}) {
            for (int n = 1; n <= 16; n++) {
                leads(1, lowestFirst(v, n), n == 7 ? 18 : 0, n == 7 ? 2 : 1);
            }
            bad(1, Desk.octets(v));
            bad(1, lowestFirst(v, 7) + lowestFirst(v, 7));
            bad(1, lowestFirst(v, 6));
            bad(1, lowestFirst(v, 7) + "1");
        }
    }

    private static void searchNamesItsLevel() {
        Desk.sentence("Terms", "SEARCH: octets 93, 95 or 97 (for level 1, 2, 3)");
        for (int state : READY) {
            for (int first = 0; first < 256; first++) {
                boolean its = first == 0x91 + 2 * Way.level(state);
                leads(state, Desk.octets(first, 0x20), its ? 45 : 0, its ? state : Way.back(state));
            }
        }
    }

    /** A row that is as long as V tells, of the bits that the tag shows (0 behind them). */
    private static String searchRow(int level, int v) {
        int[] told = Arrays.copyOf(Way.SHOWN[level - 1], 16);
        int bytes = Math.max(v / 16 - 2, 0);
        return Desk.octets(0x91 + 2 * level, v) + Desk.octets(Arrays.copyOf(told, bytes))
                + lowestFirst(told[bytes], v % 16);
    }

    private static void searchTellsHowManyBits() {
        Desk.sentence("Terms", "V: 16 n + m, n from 2 to 6, m from 0 to 7");
        for (int v = 0; v < 256; v++) {
            int n = v / 16;
            int m = v % 16;
            boolean inside = n >= 2 && n <= 6 && m <= 7;
            int length = inside ? 45 - 9 * (n - 2) - m : 0;
            for (int state : new int[] {2, 12, 25}) {
                leads(state, searchRow(Way.level(state), v), length, inside ? state : Way.back(state));
            }
        }
        for (int m = 0; m <= 8; m++) {
            // Rows of one octet, n = 1: what would be V is not there whole.
            bad(2, Desk.octets(0x93) + lowestFirst(16 + m, m));
            bad(2, lowestFirst(0x93, 7) + lowestFirst(m, m));
        }
    }

    private static void searchIsAsLongAsItTells() {
        Desk.sentence("Terms", "then n - 2 octets, then m bits (without parity)");
        for (int n = 2; n <= 6; n++) {
            for (int m = 0; m <= 7; m++) {
                String row = searchRow(1, 16 * n + m);
                bad(2, row.substring(0, row.length() - 1));
                bad(2, row + "0");
                bad(2, row + "1");
                bad(2, row + Desk.octets(0));
                if (n > 2) {
                    bad(2, row.substring(0, row.length() - 9));
                }
            }
        }
    }

    private static void chooseNamesItsLevel() {
        Desk.sentence("Terms", "CHOOSE: 93, 95 or 97, 70");
        for (int state : READY) {
            int level = Way.level(state);
            int next = level < 3 ? state + 10 : state % 10 + 1;
            int[] bytes = chooseBytes(level);
            for (int b = 0; b < 256; b++) {
                boolean its = b == 0x91 + 2 * level;
                leads(state, Model.checkedOctets(with(bytes, 0, b)), its ? 27 : 0, its ? next : Way.back(state));
                boolean choose = b == 0x70;
                leads(state, Model.checkedOctets(with(bytes, 1, b)), choose ? 27 : 0,
                        choose ? next : Way.back(state));
            }
        }
    }

    private static void chooseHasFiveOctets() {
        Desk.sentence("Terms", "five octets, two of check bytes");
        for (int count = 0; count <= 12; count++) {
            int[] bytes = Arrays.copyOf(chooseBytes(1), 2 + count);
            leads(2, Model.checkedOctets(bytes), count == 5 ? 27 : 0, count == 5 ? 12 : 1);
            bad(2, Desk.octets(bytes));
        }
        String row = Model.checkedOctets(chooseBytes(1));
        bad(2, row.substring(0, 72));
        bad(2, row.substring(0, 80));
        bad(2, row + "0");
        bad(2, row + Desk.octets(0));
    }

    private static void haltHasAZero() {
        Desk.sentence("Terms", "HALT: 50, 0, and check bytes.");
        for (int b = 0; b < 256; b++) {
            leads(3, Model.checkedOctets(0x50, b), 0, b == 0 ? 4 : 1);
            if (b != 0xE0) {
                leads(3, Model.checkedOctets(b, 0), 0, b == 0x50 ? 4 : 1);
            }
        }
        for (String row : new String[] {Desk.octets(0x50, 0), Model.checkedOctets(0x50), Desk.octets(0x50),
            Model.checkedOctets(0x50, 0, 0), Model.checkedOctets(0x50, 0) + "0",
            Model.checkedOctets(0x50, 0).substring(0, 35), Model.checkedOctets(0x50, 0, 0x57, 0xCD)}) {
            bad(3, row);
        }
    }

    private static void activateHasAnyByte() {
        Desk.sentence("Terms", "ACTIVATE: E0, any byte, check bytes.");
        for (int state : ACTIVE) {
            for (int b = 0; b < 256; b++) {
                leads(state, Model.checkedOctets(0xE0, b), 45, 7);
                if (b != 0xE0) {
                    bad(state, Model.checkedOctets(b, 0x80));
                }
            }
            for (String row : new String[] {Model.checkedOctets(0xE0), Desk.octets(0xE0, 0x80), Desk.octets(0xE0),
                Model.checkedOctets(0xE0, 0x80, 0), Model.checkedOctets(0xE0, 0x80) + "1",
                Model.checkedOctets(0xE0, 0x80).substring(0, 35)}) {
                bad(state, row);
            }
        }
    }

    private static void releaseHasNone() {
        Desk.sentence("Terms", "RELEASE: C2, check bytes.");
        for (int b = 0; b < 256; b++) {
            leads(7, Model.checkedOctets(b), b == 0xC2 ? 27 : 0, b == 0xC2 ? 4 : 7);
            bad(7, Model.checkedOctets(0xC2, b));
        }
        for (String row : new String[] {Desk.octets(0xC2), Model.checkedOctets(0xC2).substring(0, 18),
            Model.checkedOctets(0xC2).substring(0, 26), Model.checkedOctets(0xC2) + "0"}) {
            bad(7, row);
        }
    }

    private static void allOthers() {
        Desk.sentence("Terms", "All others");
        for (int state : Way.STATES) {
            bad(state, "");
            bad(state, "1");
            bad(state, "0000000");
            bad(state, "1111111");
            bad(state, Desk.octets(0x50, 0));
            bad(state, "0".repeat(160));
            bad(state, "1".repeat(160));
            bad(state, Desk.octets(new int[17]) + "0000000");
            bad(state, Model.checkedOctets(new int[15]));
        }
        for (int b = 0; b < 256; b++) {
            bad(2, Desk.octets(b));
            bad(6, Desk.octets(b));
        }
    }

    private static void wrongParities() {
        Desk.sentence("Terms", "and such with a wrong parity");
        for (int n = 2; n <= 6; n++) {
            for (int m = 0; m <= 7; m++) {
                for (int octet = 0; octet < n; octet++) {
                    bad(2, flipped(searchRow(1, 16 * n + m), 9 * octet + 8));
                }
            }
        }
        for (int octet = 0; octet < 9; octet++) {
            for (int state : READY) {
                String choose = Model.checkedOctets(chooseBytes(Way.level(state)));
                bad(state, flipped(choose, 9 * octet + 8));
            }
        }
        for (int octet = 0; octet < 4; octet++) {
            bad(3, flipped(Model.checkedOctets(0x50, 0), 9 * octet + 8));
            bad(3, flipped(Model.checkedOctets(0xE0, 0x80), 9 * octet + 8));
            bad(6, flipped(Model.checkedOctets(0xE0, 0x80), 9 * octet + 8));
        }
        for (int octet = 0; octet < 3; octet++) {
            bad(7, flipped(Model.checkedOctets(0xC2), 9 * octet + 8));
        }
    }

    private static void wrongCheckBytes() {
        Desk.sentence("Terms", "or wrong check bytes, are BAD.");
        for (int bit = 0; bit <= 16; bit++) {
            int wrong = bit < 16 ? 1 << bit : 0xFFFF;
            for (int state : READY) {
                bad(state, wronglyChecked(wrong, chooseBytes(Way.level(state))));
            }
            bad(3, wronglyChecked(wrong, 0x50, 0));
            bad(3, wronglyChecked(wrong, 0xE0, 0x80));
            bad(6, wronglyChecked(wrong, 0xE0, 0x80));
            bad(7, wronglyChecked(wrong, 0xC2));
        }
        bad(3, Desk.octets(0x50, 0x00, 0xCD, 0x57));
    }

    /** One tag hears a hundred wrong ones in a row: in PROTOCOL it stays where it is. */
    private static void allWrongCheckBytes() {
        Desk.sentence("Terms", "or wrong check bytes");
        Desk desk = new Desk();
        for (int x = 0; x < 0x10000; x++) {
            if (x % 100 == 0) {
                desk = new Desk();
                Way.bringTo(desk, 7);
            }
            desk.field.octet(0xC2);
            desk.field.octet(x);
            desk.field.octet(x >> 8);
            boolean right = x == 0xB4E0;
            Desk.due("RELEASE with check bytes of " + x, desk.field.go(), right ? 27 : 0);
            if (right) {
                desk = new Desk();
                Way.bringTo(desk, 7);
            }
        }
    }

    /** Octets with right parities; the check bytes are others. */
    private static String wronglyChecked(int wrong, int... bytes) {
        int[] check = Model.check(bytes);
        return Desk.octets(bytes) + Desk.octets(check[0] ^ wrong & 255, check[1] ^ wrong >> 8);
    }

    private static void badAfterAnyOther() {
        Desk.sentence("Terms", "All others, and such with a wrong parity or wrong check bytes, are BAD.");
        String search = Desk.octets(0x93, 0x20);
        String choose = Model.checkedOctets(chooseBytes(1));
        String[] rows = {
            "", search.substring(0, 9), search.substring(0, 17) + "1", choose.substring(0, 63),
            choose.substring(0, 72) + Desk.octets(0), "1111111", Model.checkedOctets(0x51, 0),
        };
        for (String row : rows) {
            Desk desk = new Desk();
            Way.bringTo(desk, 2);
            Desk.due("SEARCH", desk.send(search), 45);
            Desk.due("a bad frame (" + row + ") behind it", desk.send(row), 0);
            Desk.due("its state", desk.field.state(1), 1);
        }
    }
}
