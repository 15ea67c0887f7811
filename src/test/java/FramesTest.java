/** Promise 13: frames. */
public final class FramesTest {
    public static void main(String[] args) {
        byGo();
        byRounds();
        alsoWhileTheFieldWasOff();
        byNothingElse();
        Desk.end();
    }

    private static void byGo() {
        Desk.sentence("Promise 13", "How many frames were sent (by go");
        Desk desk = new Desk();
        desk.four(0x01020304);
        Desk.due("frames(), new", desk.field.frames(), 0);
        desk.field.bits(Desk.REQUEST, 7);
        Desk.due("frames(), typed only", desk.field.frames(), 0);
        desk.field.go();
        Desk.due("frames() after an answered one", desk.field.frames(), 1);
        desk.field.go();
        Desk.due("frames() after a go with nothing", desk.field.frames(), 2);
        desk.send("1");
        Desk.due("frames() after a bad one", desk.field.frames(), 3);
    }

    private static void byRounds() {
        Desk.sentence("Promise 13", "and by rounds");
        TagField empty = new TagField();
        empty.round();
        Desk.due("frames() of a round without tags", empty.frames(), 1);
        for (int levels = 1; levels <= 3; levels++) {
            TagField x = new TagField();
            x.tag(1 + 3 * levels, 0x01020304, 0x05060708, 0x090A0000);
            x.go();
            x.round();
            Desk.due("frames() after a go and a round of " + levels + " levels", x.frames(), 1 + 2 + 2 * levels + 1);
            x.round();
            Desk.due("frames() after a round without answers", x.frames(), 1 + 2 + 2 * levels + 2);
        }
    }

    private static void alsoWhileTheFieldWasOff() {
        Desk.sentence("Promise 13", "also while the field was off");
        Desk desk = new Desk();
        desk.four(0x01020304);
        desk.field.field(false);
        desk.request();
        Desk.due("frames(), off, after go", desk.field.frames(), 1);
        desk.field.go();
        Desk.due("frames(), off, after a go with nothing", desk.field.frames(), 2);
        desk.field.round();
        Desk.due("frames(), off, after a round: one REQUEST", desk.field.frames(), 3);
        desk.field.field(true);
        Desk.due("frames(), on again", desk.field.frames(), 3);
        desk.field.round();
        Desk.due("frames(), on, after a round", desk.field.frames(), 8);
    }

    private static void byNothingElse() {
        Desk.sentence("Promise 13", "How many frames were sent");
        TagField x = new TagField();
        x.tag(4, 1, 0, 0);
        x.tag(5, 0, 0, 0);
        x.out(1, true);
        x.out(2, true);
        x.field(false);
        x.bits(0, 1);
        x.bits(0, 33);
        x.octet(0);
        x.check();
        x.answer(0);
        x.state(1);
        x.found(0, 0);
        x.frames();
        Desk.due("frames() after all other calls", x.frames(), 0);
    }
}
