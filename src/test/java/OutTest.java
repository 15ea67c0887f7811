/** Promise 3: out. */
public final class OutTest {
    public static void main(String[] args) {
        outAndInAgain();
        idleWhenItIsInAgain();
        inAgainWhileTheFieldIsOff();
        whatWasSoChangesNothing();
        unknownTags();
        Desk.end();
    }

    private static void outAndInAgain() {
        Desk.sentence("Promise 3", "A tag is out of the field");
        Desk desk = new Desk();
        desk.four(0x01020304);
        desk.four(0x05060708);
        Desk.due("out(1, true)", desk.field.out(1, true), 1);
        Desk.due("states", desk.states(2), "0 1");
        desk.request();
        Desk.due("states after REQUEST", desk.states(2), "0 2");
        Desk.due("search: the one in the field", desk.search(1), 45);
        Desk.due("its bytes", desk.answer(), Desk.octets(Desk.five(5, 6, 7, 8)));
        Desk.due("out(1, false)", desk.field.out(1, false), 1);
        Desk.due("states, in again", desk.states(2), "1 2");
    }

    private static void idleWhenItIsInAgain() {
        Desk.sentence("Promise 3", "or in it again (IDLE, if the field is on): 1");
        for (int state : Way.STATES) {
            Desk desk = new Desk();
            Way.bringTo(desk, state);
            Desk.due("out(1, true) in " + state, desk.field.out(1, true), 1);
            Desk.due("its state", desk.field.state(1), 0);
            Desk.due("out(1, false)", desk.field.out(1, false), 1);
            Desk.due("its state, in again", desk.field.state(1), 1);
            desk.request();
            Desk.due("level 1 again", desk.field.state(1), 2);
        }
    }

    private static void inAgainWhileTheFieldIsOff() {
        Desk.sentence("Promise 3", "(IDLE, if the field is on)");
        TagField x = new TagField();
        x.tag(4, 1, 0, 0);
        x.tag(4, 2, 0, 0);
        x.field(false);
        Desk.due("out(1, true), off", x.out(1, true), 1);
        Desk.due("out(2, true), off", x.out(2, true), 1);
        Desk.due("out(2, false), off", x.out(2, false), 1);
        Desk.due("state(1), off", x.state(1), 0);
        Desk.due("state(2), off", x.state(2), 0);
        x.field(true);
        Desk.due("state(1), out, field on", x.state(1), 0);
        Desk.due("state(2), in, field on", x.state(2), 1);
    }

    private static void whatWasSoChangesNothing() {
        Desk.sentence("Promise 3", "0 if it was so.");
        for (int state : Way.STATES) {
            Desk desk = new Desk();
            Way.bringTo(desk, state);
            Desk.due("out(1, false), it is in, in " + state, desk.field.out(1, false), 0);
            Desk.due("its state", desk.field.state(1), state);
            desk.field.out(1, true);
            Desk.due("out(1, true), it is out", desk.field.out(1, true), 0);
            Desk.due("its state", desk.field.state(1), 0);
            desk.field.field(false);
            Desk.due("out(1, true), it is out, off", desk.field.out(1, true), 0);
            desk.field.out(1, false);
            Desk.due("out(1, false), it is in, off", desk.field.out(1, false), 0);
            Desk.due("its state, off", desk.field.state(1), 0);
        }
    }

    private static void unknownTags() {
        Desk.sentence("Promise 3", "UNKNOWN.");
        TagField x = new TagField();
        for (int tags = 0; tags <= 16; tags++) {
            for (int tag : new int[] {Integer.MIN_VALUE, -1, 0, tags + 1, 17, Integer.MAX_VALUE}) {
                Desk.due("out(" + tag + ", true) of " + tags, x.out(tag, true), TagField.UNKNOWN);
                Desk.due("out(" + tag + ", false) of " + tags, x.out(tag, false), TagField.UNKNOWN);
            }
            x.tag(4, tags, 0, 0);
        }
        Desk.due("out(1, true) of 16", x.out(1, true), 1);
        Desk.due("out(16, true) of 16", x.out(16, true), 1);
        Desk.due("state(2)", x.state(2), 1);
    }
}
