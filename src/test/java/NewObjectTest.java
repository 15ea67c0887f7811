/** Promise 1: a new object. */
public final class NewObjectTest {
    public static void main(String[] args) {
        noTags();
        theFieldIsOn();
        nothingWasTypedSentOrFound();
        objectsShareNothing();
        Desk.end();
    }

    private static void noTags() {
        Desk.sentence("Promise 1", "No tags");
        for (int tag : new int[] {-1, 0, 1, 2, 16, 17}) {
            Desk.due("state(" + tag + ")", new TagField().state(tag), TagField.UNKNOWN);
            Desk.due("out(" + tag + ", true)", new TagField().out(tag, true), TagField.UNKNOWN);
        }
        Desk.due("round()", new TagField().round(), 0);
        Desk.due("tag(4, ..), the first one", new TagField().tag(4, 0, 0, 0), 1);
    }

    private static void theFieldIsOn() {
        Desk.sentence("Promise 1", "the field is on");
        Desk.due("field(true)", new TagField().field(true), 0);
        Desk.due("field(false)", new TagField().field(false), 1);
        Desk desk = new Desk();
        desk.four(0x01020304);
        Desk.due("state(1) of the first tag", desk.field.state(1), 1);
        Desk.due("REQUEST", desk.request(), 18);
    }

    private static void nothingWasTypedSentOrFound() {
        Desk.sentence("Promise 1", "A new object");
        Desk.due("bits(1, 1)", new TagField().bits(1, 1), 1);
        Desk.due("octet(1)", new TagField().octet(1), 9);
        Desk.due("frames()", new TagField().frames(), 0);
        Desk.due("answer(0)", new TagField().answer(0), TagField.NONE);
        Desk.due("found(0, 0)", new TagField().found(0, 0), TagField.NONE);
    }

    private static void objectsShareNothing() {
        Desk.sentence("Promise 1", "No tags; the field is on.");
        Desk desk = new Desk();
        desk.four(0x01020304);
        desk.field.round();
        desk.wake();
        desk.field.octet(1);
        desk.field.field(false);
        TagField other = new TagField();
        Desk.due("state(1) of another object", other.state(1), TagField.UNKNOWN);
        Desk.due("field(true) of another object", other.field(true), 0);
        Desk.due("answer(0) of another object", other.answer(0), TagField.NONE);
        Desk.due("found(0, 0) of another object", other.found(0, 0), TagField.NONE);
        Desk.due("frames() of another object", other.frames(), 0);
        Desk.due("bits(0, 1) of another object", other.bits(0, 1), 1);
    }
}
