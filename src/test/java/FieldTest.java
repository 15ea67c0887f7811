/** Promise 4: field. */
public final class FieldTest {
    public static void main(String[] args) {
        TagField x = new TagField();
        Desk.due("field(true), new", x.field(true), 0);
        Desk.due("field(false)", x.field(false), 1);
        Desk.due("field(false) again", x.field(false), 0);
        Desk.due("field(true)", x.field(true), 1);
        Desk.due("field(true) again", x.field(true), 0);
        everyStateIsLeft();
        tagsOutStayOut();
        typedAndAnsweredStay();
        Desk.end();
    }

    private static void everyStateIsLeft() {
        for (int state : Way.STATES) {
            Desk desk = new Desk();
            Way.bringTo(desk, state);
            Desk.due("field(true), on in " + state, desk.field.field(true), 0);
            Desk.due("its state", desk.field.state(1), state);
            desk.field.field(false);
            Desk.due("its state, off", desk.field.state(1), 0);
            desk.field.field(true);
            Desk.due("its state, on again", desk.field.state(1), 1);
            desk.request();
            Desk.due("level 1 again", desk.field.state(1), 2);
        }
    }

    private static void tagsOutStayOut() {
        TagField x = new TagField();
        x.tag(4, 1, 0, 0);
        x.out(1, true);
        x.field(false);
        x.field(true);
        Desk.due("state(1), out", x.state(1), 0);
        Desk.due("out(1, true): it is so", x.out(1, true), 0);
        Desk.due("round() without a tag in the field", x.round(), 0);
    }

    private static void typedAndAnsweredStay() {
        Desk desk = new Desk();
        desk.four(0x01020304);
        desk.request();
        desk.field.bits(Desk.REQUEST, 7);
        desk.field.field(false);
        Desk.due("what was answered", desk.answer(), Desk.octets(4, 0));
        desk.field.field(true);
        Desk.due("go() with what was typed", desk.field.go(), 18);
    }
}
