import java.util.Arrays;

/** The terms' ANSWERS, and what tags show. */
public final class ReplyTest {
    private static final String MORE = Desk.octets(0x04, 0xDA, 0x17);
    private static final String LAST = Desk.octets(0x20, 0xFC, 0x70);

    /** What the numbers 1, 2, 3, .. of 4, 7, 10 bytes show at their levels, without the fifth byte. */
    private static final int[][][] SHOWN = {
        {{1, 2, 3, 4}},
        {{136, 1, 2, 3}, {4, 5, 6, 7}},
        {{136, 1, 2, 3}, {136, 4, 5, 6}, {7, 8, 9, 10}},
    };

    public static void main(String[] args) {
        shownAtEachLevel();
        fifthByte();
        answerA();
        answerRest();
        answerB();
        answerC();
        answerD();
        Desk.end();
    }

    private static Desk called(int levels) {
        Desk desk = new Desk();
        desk.field.tag(1 + 3 * levels, 0x01020304, 0x05060708, 0x090A0B0C);
        desk.request();
        return desk;
    }

    private static int[] five(int[] four) {
        return Desk.five(four[0], four[1], four[2], four[3]);
    }

    private static void shownAtEachLevel() {
        Desk.sentence("Terms", "of 4: u0 .. u3; of 7: 136 u0 u1 u2, then u3 .. u6;"
                + " of 10: 136 u0 u1 u2, then 136 u3 u4 u5, then u6 .. u9");
        for (int levels = 1; levels <= 3; levels++) {
            Desk desk = called(levels);
            for (int level = 1; level <= levels; level++) {
                int[] shown = five(SHOWN[levels - 1][level - 1]);
                Desk.due("SEARCH at level " + level + " of " + levels, desk.search(level), 45);
                Desk.due("what it shows", desk.answer(), Desk.octets(shown));
                desk.choose(level, shown);
            }
            Desk.due("its state", desk.field.state(1), 3);
        }
    }

    private static void fifthByte() {
        Desk.sentence("Terms", "and a fifth one, these four xored");
        int[][] numbers = {{0, 0, 0, 0}, {255, 255, 255, 255}, {255, 0, 0, 0}, {1, 2, 4, 8}, {0x5A, 0xC3, 1, 0xFE}};
        for (int[] u : numbers) {
            Desk desk = new Desk();
            desk.four(u[0] << 24 | u[1] << 16 | u[2] << 8 | u[3]);
            desk.request();
            desk.search(1, u);
            Desk.due("the fifth byte of " + Arrays.toString(u), desk.answer(),
                    Desk.octets(u[0] ^ u[1] ^ u[2] ^ u[3]));
        }
    }

    private static void answerA() {
        Desk.sentence("Terms", "A: 4, 44, 84 for numbers of 4, 7, 10 bytes, and 0.");
        int[] first = {0x04, 0x44, 0x84};
        for (int levels = 1; levels <= 3; levels++) {
            Desk.due("answer A of " + levels, called(levels).answer(), Desk.octets(first[levels - 1], 0));
        }
    }

    private static void answerRest() {
        Desk.sentence("Terms", "THE REST of what a tag shows: the bits of the byte within which the told ones end (if"
                + " they do) from there on, and its parity; then octets.");
        int[] five = Desk.five(0x5A, 0xC3, 0x01, 0xFE);
        for (int told = 0; told < 40; told++) {
            Desk desk = new Desk();
            desk.four(0x5AC301FE);
            desk.request();
            int[] whole = Arrays.copyOf(five, told / 8);
            int over = five[told / 8];
            String rest = Desk.octets(five).substring(told + told / 8);
            Desk.due(told + " bits told", desk.searchBits(1, over, told % 8, whole), rest.length());
            Desk.due("the rest", desk.answer(), rest);
            if (told % 8 > 0) {
                over ^= 1 << (told % 8 - 1);
            } else if (told > 0) {
                whole[whole.length - 1] ^= 128;
            }
            int due = told == 0 ? 45 : 0;
            Desk.due(told + " bits told, the last one wrong", desk.searchBits(1, over, told % 8, whole), due);
        }
    }

    private static void answerB() {
        Desk.sentence("Terms", "B: 4 if there is one more level, 20 if not, and check bytes.");
        for (int levels = 1; levels <= 3; levels++) {
            Desk desk = called(levels);
            for (int level = 1; level <= levels; level++) {
                Desk.due("CHOOSE", desk.choose(level, five(SHOWN[levels - 1][level - 1])), 27);
                Desk.due("level " + level + " of " + levels, desk.answer(), level < levels ? MORE : LAST);
            }
        }
    }

    private static void answerC() {
        Desk.sentence("Terms", "C: 3, 2, the byte that came, check bytes.");
        for (int b = 0; b < 256; b++) {
            Desk desk = called(1);
            desk.choose(1, Desk.five(1, 2, 3, 4));
            Desk.due("ACTIVATE with " + b, desk.activate(b), 45);
            Desk.due("answer C", desk.answer(), Model.checkedOctets(3, 2, b));
        }
    }

    private static void answerD() {
        Desk.sentence("Terms", "D: C2, check bytes.");
        Desk desk = called(1);
        desk.choose(1, Desk.five(1, 2, 3, 4));
        desk.activate(0);
        Desk.due("RELEASE", desk.release(), 27);
        Desk.due("answer D", desk.answer(), Desk.octets(0xC2, 0xE0, 0xB4));
    }
}
