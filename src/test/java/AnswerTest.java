/** Promise 9: answer, with collisions. */
public final class AnswerTest {
    public static void main(String[] args) {
        collisionsBitByBit();
        oneOfSixteenSendsAnother();
        onlyThoseThatAnswerCollide();
        parityBitsCollideToo();
        firstAndLastBit();
        noneSuch();
        noneAfterNoAnswer();
        goAloneChangesIt();
        Desk.end();
    }

    /** The texts of several answers laid on one another. */
    private static String lain(String... answers) {
        StringBuilder text = new StringBuilder(answers[0]);
        for (String one : answers) {
            for (int i = 0; i < one.length(); i++) {
                if (text.charAt(i) != one.charAt(i)) {
                    text.setCharAt(i, '2');
                }
            }
        }
        return text.toString();
    }

    private static void collisionsBitByBit() {
        Desk.sentence("Terms", "Answers of several tags lie on one another, bit by bit from the first one on");
        Desk desk = new Desk();
        desk.four(0x01020304);
        desk.field.tag(7, 0x0A0B0C0D, 0x0E0F1000, 0);
        desk.field.tag(10, 0x0A0B0CFF, 0x0E0F1011, 0x12130000);
        desk.request();
        Desk.due("A of three sizes", desk.answer(), "001000222" + "000000001");
        desk.search(1);
        String both = Desk.octets(Desk.five(136, 0x0A, 0x0B, 0x0C));
        Desk.due("SEARCH of all", desk.answer(), lain(Desk.octets(Desk.five(1, 2, 3, 4)), both));
        desk.searchBits(1, 0b000, 3);
        Desk.due("SEARCH of those that begin so", desk.answer(), both.substring(3));
        Desk.due("CHOOSE of two alike", desk.choose(1, Desk.five(136, 0x0A, 0x0B, 0x0C)), 27);
        Desk.due("no collision", desk.answer(), Desk.octets(0x04, 0xDA, 0x17));
        Desk.due("states", desk.states(3), "1 12 12");
        desk.search(2);
        Desk.due("SEARCH at level 2", desk.answer(),
                lain(Desk.octets(Desk.five(0x0D, 0x0E, 0x0F, 0x10)), Desk.octets(Desk.five(136, 0xFF, 0x0E, 0x0F))));
    }

    /** Sixteen tags begin alike; the one that is another comes first, or last. */
    private static void oneOfSixteenSendsAnother() {
        Desk.sentence("Terms", "a bit is 0 or 1 if all tags that send one there send that, else 2: a COLLISION.");
        for (int other : new int[] {1, 8, 16}) {
            Desk desk = new Desk();
            for (int i = 1; i <= 16; i++) {
                desk.field.tag(7, i == other ? 0x01020780 : 0x01020380, i << 24, 0);
            }
            desk.request();
            Desk.due("A of sixteen alike", desk.answer(), Desk.octets(0x44, 0));
            desk.search(1);
            Desk.due("tag " + other + " sends another", desk.answer(),
                    lain(Desk.octets(Desk.five(136, 1, 2, 3)), Desk.octets(Desk.five(136, 1, 2, 7))));
            desk.choose(1, Desk.five(136, 1, 2, 7));
            desk.search(2);
            Desk.due("tag " + other + " alone", desk.answer(), Desk.octets(Desk.five(0x80, other, 0, 0)));
        }
    }

    private static void onlyThoseThatAnswerCollide() {
        Desk.sentence("Terms", "all tags that send one there");
        Desk desk = new Desk();
        desk.four(0x000000FF);
        desk.four(0x000000FE);
        desk.four(0xFF000000);
        desk.field.out(1, true);
        desk.request();
        desk.search(1, 0, 0, 0);
        Desk.due("one alone", desk.answer(), Desk.octets(0xFE, 0xFE));
        Desk.due("told bits that no tag has", desk.search(1, 1), 0);
        Desk.due("no answer", desk.answer(), "");
        Desk.due("states", desk.states(3), "0 2 2");
    }

    private static void parityBitsCollideToo() {
        Desk.sentence("Promise 9", "2 for a collision");
        Desk desk = new Desk();
        desk.four(0x00000001);
        desk.four(0x00000000);
        desk.request();
        desk.search(1);
        String same = "000000001".repeat(3);
        Desk.due("two that differ by one bit", desk.answer(), same + "200000002" + "200000002");
        Desk other = new Desk();
        other.four(0x00000003);
        other.four(0x00000000);
        other.request();
        other.search(1);
        Desk.due("two that differ by two bits", other.answer(), same + "220000001" + "220000001");
    }

    private static void firstAndLastBit() {
        Desk.sentence("Promise 9", "Bit i (0 the first) of what was answered latest by go: 0, 1");
        Desk desk = new Desk();
        desk.four(0x01020304);
        desk.request();
        Desk.due("answer(0) of A", desk.field.answer(0), 0);
        Desk.due("answer(2) of A", desk.field.answer(2), 1);
        Desk.due("answer(17) of A", desk.field.answer(17), 1);
        desk.search(1);
        Desk.due("answer(0) of the rest", desk.field.answer(0), 1);
        Desk.due("answer(44) of the rest", desk.field.answer(44), 0);
        desk.searchBits(1, 4, 7, 1, 2, 3, 4);
        Desk.due("answer(0) of two bits", desk.field.answer(0), 0);
        Desk.due("answer(1) of two bits", desk.field.answer(1), 0);
    }

    private static void noneSuch() {
        Desk.sentence("Promise 9", "NONE when there is none such.");
        Desk desk = new Desk();
        desk.four(0x01020304);
        noneBeyond(desk, 0);
        noneBeyond(desk, desk.request());
        noneBeyond(desk, desk.search(1));
        noneBeyond(desk, desk.searchBits(1, 4, 7, 1, 2, 3, 4));
        noneBeyond(desk, desk.choose(1, Desk.five(1, 2, 3, 4)));
        noneBeyond(desk, desk.halt());
    }

    private static void noneBeyond(Desk desk, int length) {
        for (int i : new int[] {Integer.MIN_VALUE, -64, -1, length, length + 1, 64, 160, Integer.MAX_VALUE}) {
            Desk.due("answer(" + i + ") of " + length, desk.field.answer(i), TagField.NONE);
        }
        if (length > 0) {
            boolean none = desk.field.answer(length - 1) == TagField.NONE;
            Desk.due("none at the last of " + length, none, false);
        }
    }

    private static void noneAfterNoAnswer() {
        Desk.sentence("Promise 9", "what was answered latest by go");
        Desk desk = new Desk();
        desk.four(0x01020304);
        desk.request();
        desk.field.go();
        Desk.due("answer(0) after a go without an answer", desk.field.answer(0), TagField.NONE);
        desk.request();
        desk.field.field(false);
        Desk.due("answer(2), off, before go", desk.field.answer(2), 1);
        desk.field.go();
        Desk.due("answer(2), off, after go", desk.field.answer(2), TagField.NONE);
    }

    private static void goAloneChangesIt() {
        Desk.sentence("Promise 9", "latest by go");
        Desk desk = new Desk();
        desk.four(0x01020304);
        desk.request();
        String answer = desk.answer();
        desk.field.bits(1, 1);
        desk.field.octet(1);
        desk.field.check();
        desk.field.field(false);
        desk.field.field(true);
        desk.field.out(1, true);
        desk.field.out(1, false);
        Desk.due("round()", desk.field.round(), 1);
        desk.field.tag(4, 5, 0, 0);
        Desk.due("what go answered latest", desk.answer(), answer);
    }
}
