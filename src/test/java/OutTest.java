/** Promise 3: out. */
public final class OutTest {
    public static void main(String[] args) {
        unknownTags();
        outAndInAgain();
        whatWasSoChangesNothing();
        everyStateIsLeft();
        whileTheFieldIsOff();
        Desk.end();
    }

    private static void unknownTags() {
        TagField x = new TagField();
        x.tag(4, 1, 0, 0);
        for (int tag : new int[] {Integer.MIN_VALUE, -1, 0, 2, 16, 17, Integer.MAX_VALUE}) {
            Desk.due("out(" + tag + ", true)", x.out(tag, true), TagField.UNKNOWN);
            Desk.due("out(" + tag + ", false)", x.out(tag, false), TagField.UNKNOWN);
        }
        Desk.due("state(1) after refusals", x.state(1), 1);
    }

    private static void outAndInAgain() {
        Desk desk = new Desk();
        desk.four(0x01020304);
        desk.four(0x05060708);
        Desk.due("out(1, true)", desk.field.out(1, true), 1);
        Desk.due("state(1) out", desk.field.state(1), 0);
        Desk.due("state(2)", desk.field.state(2), 1);
        desk.request();
        Desk.due("state(1), out, after REQUEST", desk.field.state(1), 0);
        Desk.due("search: the one in the field", desk.search(1), 45);
        Desk.due("its bytes", desk.answer(), Desk.octets(Desk.five(5, 6, 7, 8)));
        Desk.due("out(1, false)", desk.field.out(1, false), 1);
        Desk.due("state(1) in again", desk.field.state(1), 1);
        Desk.due("state(2), not touched", desk.field.state(2), 2);
    }

    private static void whatWasSoChangesNothing() {
        Desk desk = new Desk();
        desk.four(0x01020304);
        desk.request();
        Desk.due("out(1, false) when it is in", desk.field.out(1, false), 0);
        Desk.due("its state", desk.field.state(1), 2);
        desk.field.out(1, true);
        Desk.due("out(1, true) when it is out", desk.field.out(1, true), 0);
        Desk.due("its state", desk.field.state(1), 0);
    }

    private static void everyStateIsLeft() {
        for (int state : Way.STATES) {
            Desk desk = new Desk();
            Way.bringTo(desk, state);
            Desk.due("out(1, true) in " + state, desk.field.out(1, true), 1);
            Desk.due("its state", desk.field.state(1), 0);
            Desk.due("out(1, false)", desk.field.out(1, false), 1);
            Desk.due("its state, in again", desk.field.state(1), 1);
            desk.request();
            Desk.due("level 1 again", desk.field.state(1), 2);
        }
    }

    private static void whileTheFieldIsOff() {
        TagField x = new TagField();
        x.tag(4, 1, 0, 0);
        x.tag(4, 2, 0, 0);
        x.field(false);
        Desk.due("out(1, false), off: it is in", x.out(1, false), 0);
        Desk.due("out(1, true), off", x.out(1, true), 1);
        Desk.due("out(2, true), off", x.out(2, true), 1);
        Desk.due("out(2, false), off", x.out(2, false), 1);
        Desk.due("state(2), off", x.state(2), 0);
        x.field(true);
        Desk.due("state(1), out, field on", x.state(1), 0);
        Desk.due("state(2), in, field on", x.state(2), 1);
    }
}
