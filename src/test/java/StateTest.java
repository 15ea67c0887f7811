/** Promise 10: state. */
public final class StateTest {
    public static void main(String[] args) {
        for (int state : Way.STATES) {
            Desk desk = new Desk();
            Way.bringTo(desk, state);
            Desk.due("state(1) asked once more", desk.field.state(1), state);
            desk.four(0x01020304);
            Desk.due("state(2) of another tag", desk.field.state(2), 1);
            Desk.due("state(1) still", desk.field.state(1), state);
        }
        unknownTags();
        levelsOfSevenBytes();
        Desk.end();
    }

    private static void unknownTags() {
        TagField x = new TagField();
        x.tag(4, 1, 0, 0);
        for (int tag : new int[] {Integer.MIN_VALUE, -1, 0, 2, 16, 17, Integer.MAX_VALUE}) {
            Desk.due("state(" + tag + ")", x.state(tag), TagField.UNKNOWN);
        }
    }

    private static void levelsOfSevenBytes() {
        Desk desk = new Desk();
        desk.field.tag(7, 0x01020304, 0x05060700, 0);
        desk.wake();
        Desk.due("READY at level 1", desk.field.state(1), 2);
        desk.choose(1, Desk.five(136, 1, 2, 3));
        Desk.due("READY at level 2", desk.field.state(1), 12);
        desk.choose(2, Desk.five(4, 5, 6, 7));
        Desk.due("ACTIVE, without the level", desk.field.state(1), 3);
        desk.halt();
        Desk.due("HALTED", desk.field.state(1), 4);
        desk.wake();
        desk.choose(1, Desk.five(136, 1, 2, 3));
        Desk.due("woken, READY at level 2", desk.field.state(1), 15);
        desk.field.go();
        Desk.due("back", desk.field.state(1), 4);
        desk.wake();
        Desk.due("woken again, at level 1", desk.field.state(1), 5);
    }
}
