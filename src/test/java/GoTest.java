import java.util.Arrays;

/** Promise 8: go, with the table of states, the answers, and the frames that are BAD. */
public final class GoTest {
    /** The frames of the table, and the states that each leads to from those of Way.STATES. */
    private static final Object[][] TABLE = {
        //                 1  2   12  22  3  4  5   15  25  6  7
        {"REQUEST", new int[] {2, 1, 1, 1, 1, 4, 4, 4, 4, 4, 7}},
        {"WAKE", new int[] {2, 1, 1, 1, 1, 5, 4, 4, 4, 4, 7}},
        {"SEARCH 1", new int[] {1, 2, 1, 1, 1, 4, 5, 4, 4, 4, 7}},
        {"SEARCH 2", new int[] {1, 1, 12, 1, 1, 4, 4, 15, 4, 4, 7}},
        {"SEARCH 3", new int[] {1, 1, 1, 22, 1, 4, 4, 4, 25, 4, 7}},
        {"SEARCH 1 another", new int[] {1, 2, 1, 1, 1, 4, 5, 4, 4, 4, 7}},
        {"CHOOSE 1", new int[] {1, 12, 1, 1, 1, 4, 15, 4, 4, 4, 7}},
        {"CHOOSE 2", new int[] {1, 1, 22, 1, 1, 4, 4, 25, 4, 4, 7}},
        {"CHOOSE 3", new int[] {1, 1, 1, 3, 1, 4, 4, 4, 6, 4, 7}},
        {"CHOOSE 1 another", new int[] {1, 1, 1, 1, 1, 4, 4, 4, 4, 4, 7}},
        {"CHOOSE 2 another", new int[] {1, 1, 1, 1, 1, 4, 4, 4, 4, 4, 7}},
        {"CHOOSE 3 another", new int[] {1, 1, 1, 1, 1, 4, 4, 4, 4, 4, 7}},
        {"HALT", new int[] {1, 1, 1, 1, 4, 4, 4, 4, 4, 4, 7}},
        {"ACTIVATE", new int[] {1, 1, 1, 1, 7, 4, 4, 4, 4, 7, 7}},
        {"RELEASE", new int[] {1, 1, 1, 1, 1, 4, 4, 4, 4, 4, 4}},
        {"BAD", new int[] {1, 1, 1, 1, 1, 4, 4, 4, 4, 4, 7}},
        {"NOTHING", new int[] {1, 1, 1, 1, 1, 4, 4, 4, 4, 4, 7}},
    };

    private static final String A = Desk.octets(0x84, 0);
    private static final String B_MORE = Desk.octets(0x04, 0xDA, 0x17);
    private static final String B_LAST = Desk.octets(0x20, 0xFC, 0x70);

    public static void main(String[] args) {
        for (Object[] row : TABLE) {
            for (int i = 0; i < Way.STATES.length; i++) {
                fromState(Way.STATES[i], (String) row[0], ((int[]) row[1])[i]);
            }
        }
        answersOfEachSize();
        everyRestIsAnswered();
        everyActivateIsAnswered();
        fiveBytesAreChosen();
        aBadFrameIsBadAfterAnyOther();
        oneBitWrongIsBad();
        wrongCheckBytesAreBad();
        otherFramesAreBad();
        whileTheFieldIsOff();
        Desk.end();
    }

    private static void fromState(int state, String frame, int next) {
        Desk desk = new Desk();
        Way.bringTo(desk, state);
        int frames = desk.field.frames();
        int length = sendNamed(desk, frame);
        String where = frame + " in state " + state;
        Desk.due(where + ": answer", desk.answer(), dueAnswer(state, frame, next));
        Desk.due(where + ": how many bits", length, desk.answer().length());
        Desk.due(where + ": state", desk.field.state(1), next);
        Desk.due(where + ": frames()", desk.field.frames(), frames + 1);
        Desk.due(where + ": nothing is typed then", desk.field.bits(0, 1), 1);
    }

    private static int sendNamed(Desk desk, String frame) {
        String[] words = frame.split(" ");
        int level = words.length > 1 ? Integer.parseInt(words[1]) : 1;
        int[] five = Way.SHOWN[level - 1].clone();
        if (words.length > 2) {
            five[3] ^= 1;
            five[4] ^= 1;
        }
        return switch (words[0]) {
            case "REQUEST" -> desk.request();
            case "WAKE" -> desk.wake();
            case "SEARCH" -> desk.search(level, five[0], five[1], five[2], five[3]);
            case "CHOOSE" -> desk.choose(level, five);
            case "HALT" -> desk.halt();
            case "ACTIVATE" -> desk.activate(0x51);
            case "RELEASE" -> desk.release();
            case "BAD" -> desk.checked(0x51, 0);
            default -> desk.field.go();
        };
    }

    /** Only a frame that the state waits for is answered, and HALT never is. */
    private static String dueAnswer(int state, String frame, int next) {
        boolean called = (state == 1 || state == 4) && next != state;
        boolean searched = frame.startsWith("SEARCH") && !frame.endsWith("another") && state == next;
        if (called) {
            return A;
        }
        if (searched && state % 10 != 1 && state != 4 && state != 7) {
            return Desk.octets(Way.SHOWN[state / 10][4]);
        }
        if (frame.startsWith("CHOOSE") && (next > 10 || next == 3 || next == 6)) {
            return next > 10 ? B_MORE : B_LAST;
        }
        if (frame.equals("ACTIVATE") && next == 7 && state != 7) {
            return Model.checkedOctets(3, 2, 0x51);
        }
        return frame.equals("RELEASE") && state == 7 ? Desk.octets(0xC2, 0xE0, 0xB4) : "";
    }

    private static void answersOfEachSize() {
        int[] sizes = {4, 7, 10};
        int[] first = {0x04, 0x44, 0x84};
        for (int i = 0; i < 3; i++) {
            Desk desk = new Desk();
            desk.field.tag(sizes[i], 0x01020304, 0x05060708, 0x090A0000);
            Desk.due("REQUEST", desk.request(), 18);
            Desk.due("answer A of " + sizes[i] + " bytes", desk.answer(), Desk.octets(first[i], 0));
            desk.choose(1, i == 0 ? Desk.five(1, 2, 3, 4) : Desk.five(136, 1, 2, 3));
            Desk.due("answer B of " + sizes[i] + " bytes", desk.answer(), i == 0 ? B_LAST : B_MORE);
        }
        Desk desk = new Desk();
        desk.field.tag(7, 0x01020304, 0x05060708, 0);
        desk.request();
        desk.choose(1, Desk.five(136, 1, 2, 3));
        desk.search(2);
        Desk.due("level 2 of 7 bytes", desk.answer(), Desk.octets(Desk.five(4, 5, 6, 7)));
        desk.choose(2, Desk.five(4, 5, 6, 7));
        Desk.due("answer B at level 2 of 7 bytes", desk.answer(), B_LAST);
        Desk.due("state(1)", desk.field.state(1), 3);
    }

    private static void everyRestIsAnswered() {
        int[] five = Desk.five(0x5A, 0xC3, 0x01, 0xFE);
        for (int told = 0; told < 40; told++) {
            Desk desk = new Desk();
            desk.four(0x5AC301FE);
            desk.request();
            int[] whole = Arrays.copyOf(five, told / 8);
            int over = five[told / 8];
            String rest = Desk.octets(five).substring(told + told / 8);
            Desk.due(told + " bits told", desk.searchBits(1, over, told % 8, whole), rest.length());
            Desk.due("the rest", desk.answer(), rest);
            if (told % 8 > 0) {
                over ^= 1 << (told % 8 - 1);
            } else if (told > 0) {
                whole[whole.length - 1] ^= 128;
            }
            int due = told == 0 ? 45 : 0;
            Desk.due(told + " bits told, the last one wrong", desk.searchBits(1, over, told % 8, whole), due);
            Desk.due("it stays READY", desk.field.state(1), 2);
        }
    }

    private static void everyActivateIsAnswered() {
        for (int b = 0; b < 256; b++) {
            Desk desk = new Desk();
            desk.four(0x01020304);
            desk.request();
            desk.choose(1, Desk.five(1, 2, 3, 4));
            Desk.due("ACTIVATE with " + b, desk.activate(b), 45);
            Desk.due("answer C", desk.answer(), Model.checkedOctets(3, 2, b));
            Desk.due("state(1)", desk.field.state(1), 7);
        }
    }

    private static void fiveBytesAreChosen() {
        for (int bit = 0; bit < 40; bit++) {
            Desk desk = new Desk();
            desk.four(0x01020304);
            desk.request();
            int[] five = Desk.five(1, 2, 3, 4);
            five[bit / 8] ^= 1 << (bit % 8);
            Desk.due("CHOOSE, bit " + bit + " another", desk.choose(1, five), 0);
            Desk.due("state(1)", desk.field.state(1), 1);
        }
    }

    private static void aBadFrameIsBadAfterAnyOther() {
        String search = Desk.octets(0x93, 0x20);
        int[] five = Way.SHOWN[0];
        String choose = Model.checkedOctets(0x93, 0x70, five[0], five[1], five[2], five[3], five[4]);
        String[] bad = {
            "", search.substring(0, 9), search.substring(0, 17) + "1", choose.substring(0, 63),
            choose.substring(0, 72) + Desk.octets(0), "1111111", Model.checkedOctets(0x51, 0),
        };
        for (String frame : bad) {
            Desk desk = new Desk();
            Way.bringTo(desk, 2);
            Desk.due("SEARCH", desk.send(search), 45);
            Desk.due("a bad frame (" + frame + ") behind it", desk.send(frame), 0);
            Desk.due("its state", desk.field.state(1), 1);
        }
    }

    private static void oneBitWrongIsBad() {
        int[] five = Way.SHOWN[2];
        String choose = Model.checkedOctets(0x97, 0x70, five[0], five[1], five[2], five[3], five[4]);
        oneBitWrong(22, choose, 1);
        oneBitWrong(25, choose, 4);
        oneBitWrong(3, Desk.octets(0x50, 0x00, 0x57, 0xCD), 1);
        oneBitWrong(3, Desk.octets(0xE0, 0x80, 0x31, 0x73), 1);
        oneBitWrong(6, Desk.octets(0xE0, 0x80, 0x31, 0x73), 4);
        oneBitWrong(7, Desk.octets(0xC2, 0xE0, 0xB4), 7);
        oneBitWrong(22, Desk.octets(0x97, 0x50, five[0], five[1], five[2]), 1);
        oneBitWrong(1, "0110010", 1);
        oneBitWrong(4, "0100101", 4);
    }

    private static void oneBitWrong(int state, String frame, int next) {
        for (int i = 0; i < frame.length(); i++) {
            Desk desk = new Desk();
            Way.bringTo(desk, state);
            StringBuilder wrong = new StringBuilder(frame);
            wrong.setCharAt(i, frame.charAt(i) == '0' ? '1' : '0');
            Desk.due("bit " + i + " wrong in state " + state, desk.send(wrong.toString()), 0);
            Desk.due("its state", desk.field.state(1), next);
        }
    }

    private static void wrongCheckBytesAreBad() {
        for (int bit = 0; bit < 16; bit++) {
            int low = bit < 8 ? 1 << bit : 0;
            int high = bit < 8 ? 0 : 1 << (bit - 8);
            badIn(3, Desk.octets(0x50, 0x00, 0x57 ^ low, 0xCD ^ high), 1);
            badIn(3, Desk.octets(0xE0, 0x80, 0x31 ^ low, 0x73 ^ high), 1);
            badIn(7, Desk.octets(0xC2, 0xE0 ^ low, 0xB4 ^ high), 7);
            int[] five = Way.SHOWN[0];
            int[] check = Model.check(0x93, 0x70, five[0], five[1], five[2], five[3], five[4]);
            badIn(2, Desk.octets(0x93, 0x70, five[0], five[1], five[2], five[3], five[4],
                    check[0] ^ low, check[1] ^ high), 1);
        }
        badIn(3, Desk.octets(0x50, 0x00, 0xCD, 0x57), 1);
        badIn(3, Desk.octets(0x50, 0x00), 1);
        badIn(3, Model.checkedOctets(0x50, 0x00, 0x57, 0xCD), 1);
    }

    private static void badIn(int state, String frame, int next) {
        Desk desk = new Desk();
        Way.bringTo(desk, state);
        Desk.due("a bad frame (" + frame + ") in state " + state, desk.send(frame), 0);
        Desk.due("its state", desk.field.state(1), next);
    }

    private static void otherFramesAreBad() {
        int[] five = Way.SHOWN[0];
        String search = Desk.octets(0x93, 0x20);
        badIn(2, search + "0", 1);
        badIn(2, search + Desk.octets(0x88), 1);
        badIn(2, search.substring(0, 17), 1);
        badIn(2, Desk.octets(0x93, 0x28) + "00010001", 1);
        badIn(2, Desk.octets(0x93, 0x10), 1);
        badIn(2, Desk.octets(0x93) + "10101", 1);
        badIn(2, Desk.octets(0x93) + "1110100", 1);
        badIn(2, Desk.octets(0x93, 0x10).substring(0, 9), 1);
        badIn(2, Desk.octets(0x93, 0x30), 1);
        badIn(2, Desk.octets(0x93, 0x21), 1);
        badIn(2, Desk.octets(0x91, 0x20), 1);
        badIn(2, Desk.octets(0x99, 0x20), 1);
        badIn(2, Desk.octets(0x94, 0x20), 1);
        badIn(2, Desk.octets(0x93, 0x70, five[0], five[1], five[2], five[3], five[4]), 1);
        badIn(2, Desk.octets(0x93, 0x71, five[0], five[1], five[2], five[3], five[4]) + "1", 1);
        badIn(2, Model.checkedOctets(0x93, 0x70, five[0], five[1], five[2], five[3]), 1);
        badIn(2, Model.checkedOctets(0x93, 0x70, five[0], five[1], five[2], five[3], five[4], 0), 1);
        badIn(2, Model.checkedOctets(0x91, 0x70, five[0], five[1], five[2], five[3], five[4]), 1);
        badIn(2, Model.checkedOctets(0x93, 0x60, five[0], five[1], five[2], five[3], five[4]), 1);
        badIn(2, Model.checkedOctets(0x93, 0x70, five[0], five[1], five[2], five[3], five[4]) + "0", 1);
        badIn(1, "011001", 1);
        badIn(1, "01100100", 1);
        badIn(1, Desk.octets(0x26), 1);
        badIn(4, Desk.octets(0x52), 4);
        badIn(3, Model.checkedOctets(0x50, 0x01), 1);
        badIn(3, Model.checkedOctets(0x50), 1);
        badIn(3, Model.checkedOctets(0x50, 0, 0), 1);
        badIn(3, Model.checkedOctets(0xE0), 1);
        badIn(3, Model.checkedOctets(0xE0, 0x80, 0), 1);
        badIn(3, Model.checkedOctets(0xE1, 0x80), 1);
        badIn(7, Model.checkedOctets(0xC2, 0), 7);
        badIn(7, Model.checkedOctets(0xC3), 7);
        badIn(7, Desk.octets(0xC2), 7);
    }

    private static void whileTheFieldIsOff() {
        Desk desk = new Desk();
        desk.four(0x01020304);
        desk.request();
        desk.field.field(false);
        Desk.due("REQUEST, off", desk.request(), 0);
        Desk.due("its answer", desk.answer(), "");
        Desk.due("frames()", desk.field.frames(), 2);
        Desk.due("nothing is typed then", desk.field.bits(0, 1), 1);
        Desk.due("state(1), off", desk.field.state(1), 0);
        desk.field.field(true);
        Desk.due("state(1), on", desk.field.state(1), 1);
    }
}
