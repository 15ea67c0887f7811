/** Promise 9: answer, with collisions. */
public final class AnswerTest {
    public static void main(String[] args) {
        collisionsBitByBit();
        onlyThoseThatAnswerCollide();
        noneSuch();
        goAloneChangesIt();
        Desk.end();
    }

    /** The texts of several answers laid on one another. */
    private static String lain(String... answers) {
        StringBuilder text = new StringBuilder(answers[0]);
        for (String one : answers) {
            for (int i = 0; i < one.length(); i++) {
                if (text.charAt(i) != one.charAt(i)) {
                    text.setCharAt(i, '2');
                }
            }
        }
        return text.toString();
    }

    private static void collisionsBitByBit() {
        Desk desk = new Desk();
        desk.four(0x01020304);
        desk.field.tag(7, 0x0A0B0C0D, 0x0E0F1000, 0);
        desk.field.tag(10, 0x0A0B0CFF, 0x0E0F1011, 0x12130000);
        desk.request();
        Desk.due("A of three sizes", desk.answer(), "001000222" + "000000001");
        desk.search(1);
        String both = Desk.octets(Desk.five(136, 0x0A, 0x0B, 0x0C));
        Desk.due("SEARCH of all", desk.answer(), lain(Desk.octets(Desk.five(1, 2, 3, 4)), both));
        desk.searchBits(1, 0b000, 3);
        Desk.due("SEARCH of those that begin so", desk.answer(), both.substring(3));
        Desk.due("CHOOSE of two alike", desk.choose(1, Desk.five(136, 0x0A, 0x0B, 0x0C)), 27);
        Desk.due("no collision", desk.answer(), Desk.octets(0x04, 0xDA, 0x17));
        Desk.due("states", desk.field.state(1) + " " + desk.field.state(2) + " " + desk.field.state(3), "1 12 12");
        desk.search(2);
        Desk.due("SEARCH at level 2", desk.answer(),
                lain(Desk.octets(Desk.five(0x0D, 0x0E, 0x0F, 0x10)), Desk.octets(Desk.five(136, 0xFF, 0x0E, 0x0F))));
    }

    private static void onlyThoseThatAnswerCollide() {
        Desk desk = new Desk();
        desk.four(0x000000FF);
        desk.four(0x000000FE);
        desk.four(0xFF000000);
        desk.field.out(1, true);
        desk.request();
        desk.search(1, 0, 0, 0);
        Desk.due("one alone", desk.answer(), Desk.octets(0xFE, 0xFE));
        Desk.due("told bits that no tag has", desk.search(1, 1), 0);
        Desk.due("no answer", desk.answer(), "");
        Desk.due("states", desk.field.state(1) + " " + desk.field.state(2) + " " + desk.field.state(3), "0 2 2");
    }

    private static void noneSuch() {
        Desk desk = new Desk();
        Desk.due("answer(0), new", desk.field.answer(0), TagField.NONE);
        desk.four(0x01020304);
        desk.request();
        Desk.due("answer(17)", desk.field.answer(17), 1);
        for (int i : new int[] {Integer.MIN_VALUE, -64, -1, 18, 45, 64, 66, Integer.MAX_VALUE}) {
            Desk.due("answer(" + i + ")", desk.field.answer(i), TagField.NONE);
        }
        desk.search(1);
        Desk.due("answer(0) of SEARCH", desk.field.answer(0), 1);
        Desk.due("answer(44)", desk.field.answer(44), 0);
        Desk.due("answer(45)", desk.field.answer(45), TagField.NONE);
        desk.field.go();
        Desk.due("answer(0) after a go without an answer", desk.field.answer(0), TagField.NONE);
    }

    private static void goAloneChangesIt() {
        Desk desk = new Desk();
        desk.four(0x01020304);
        desk.request();
        String answer = desk.answer();
        desk.field.bits(1, 1);
        desk.field.octet(1);
        desk.field.check();
        desk.field.field(false);
        desk.field.field(true);
        desk.field.out(1, true);
        desk.field.out(1, false);
        Desk.due("round()", desk.field.round(), 1);
        desk.field.tag(4, 5, 0, 0);
        Desk.due("what go answered latest", desk.answer(), answer);
    }
}
