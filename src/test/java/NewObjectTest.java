/** Promise 1: a new object. */
public final class NewObjectTest {
    public static void main(String[] args) {
        TagField x = new TagField();
        Desk.due("state(1) without tags", x.state(1), TagField.UNKNOWN);
        Desk.due("frames()", x.frames(), 0);
        Desk.due("answer(0) before any go", x.answer(0), TagField.NONE);
        Desk.due("found(0, 0) before any round", x.found(0, 0), TagField.NONE);
        Desk.due("field(true) when it is on", x.field(true), 0);
        Desk.due("bits(1, 1) behind nothing", x.bits(1, 1), 1);
        Desk.due("tag(4, ..), the first one", x.tag(4, 0x01020304, 0, 0), 1);
        Desk.due("state(1) in the field that is on", x.state(1), 1);
        Desk.due("state(2)", x.state(2), TagField.UNKNOWN);
        Desk.due("state(1) of another object", new TagField().state(1), TagField.UNKNOWN);
        Desk.due("round() without tags", new TagField().round(), 0);
        Desk.end();
    }
}
