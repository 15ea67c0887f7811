/** Promise 4: field. */
public final class FieldTest {
    public static void main(String[] args) {
        onAndOff();
        whatWasSoChangesNothing();
        idleWhenItComesOn();
        tagsOutStayOut();
        typedAndAnsweredStay();
        Desk.end();
    }

    private static void onAndOff() {
        Desk.sentence("Promise 4", "The field is on, or off: 1");
        Desk desk = new Desk();
        desk.four(0x01020304);
        for (int i = 0; i < 3; i++) {
            Desk.due("field(false)", desk.field.field(false), 1);
            Desk.due("state(1), off", desk.field.state(1), 0);
            Desk.due("REQUEST, off", desk.request(), 0);
            Desk.due("field(true)", desk.field.field(true), 1);
            Desk.due("state(1), on", desk.field.state(1), 1);
            Desk.due("REQUEST, on", desk.request(), 18);
        }
    }

    private static void whatWasSoChangesNothing() {
        Desk.sentence("Promise 4", "0 if it was so.");
        for (int state : Way.STATES) {
            Desk desk = new Desk();
            Way.bringTo(desk, state);
            Desk.due("field(true), on, in " + state, desk.field.field(true), 0);
            Desk.due("its state", desk.field.state(1), state);
            desk.field.field(false);
            Desk.due("field(false), off", desk.field.field(false), 0);
            Desk.due("its state", desk.field.state(1), 0);
        }
    }

    private static void idleWhenItComesOn() {
        Desk.sentence("Promise 4", "Tags in it are IDLE when it comes on.");
        for (int state : Way.STATES) {
            Desk desk = new Desk();
            Way.bringTo(desk, state);
            desk.four(0x01020304);
            desk.field.field(false);
            Desk.due("states, off", desk.states(2), "0 0");
            desk.field.field(true);
            Desk.due("states, on again", desk.states(2), "1 1");
            desk.request();
            Desk.due("level 1 again", desk.states(2), "2 2");
        }
        TagField x = new TagField();
        for (int i = 1; i <= 16; i++) {
            x.tag(4, i, 0, 0);
        }
        x.field(false);
        x.field(true);
        Desk.due("state(1) of sixteen", x.state(1), 1);
        Desk.due("state(16) of sixteen", x.state(16), 1);
    }

    private static void tagsOutStayOut() {
        Desk.sentence("Promise 4", "Tags in it");
        TagField x = new TagField();
        x.tag(4, 1, 0, 0);
        x.out(1, true);
        x.field(false);
        x.field(true);
        Desk.due("state(1), out", x.state(1), 0);
        Desk.due("out(1, true): it is so", x.out(1, true), 0);
        Desk.due("round() without a tag in the field", x.round(), 0);
    }

    private static void typedAndAnsweredStay() {
        Desk.sentence("Promise 4", "The field is on, or off");
        Desk desk = new Desk();
        desk.four(0x01020304);
        desk.request();
        desk.field.bits(Desk.REQUEST, 7);
        desk.field.field(false);
        Desk.due("what was answered", desk.answer(), Desk.octets(4, 0));
        desk.field.field(true);
        Desk.due("go() with what was typed", desk.field.go(), 18);
    }
}
