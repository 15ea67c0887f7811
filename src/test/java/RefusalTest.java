/** The terms' REFUSALS. */
public final class RefusalTest {
    private static final String ORDER = "of several the first one here: UNKNOWN (there is no such tag), OUTSIDE (a"
            + " number is not as said), STATE, ROOM.";

    public static void main(String[] args) {
        outsideBeforeStateBeforeRoom();
        outsideBeforeRoomInBits();
        stateBeforeRoomInCheck();
        changesNothing();
        fullChangesNothing();
        Desk.end();
    }

    private static void outsideBeforeStateBeforeRoom() {
        Desk.sentence("Terms", ORDER);
        TagField x = new TagField();
        Desk.due("size and 136", x.tag(5, 0x88888888, 0x88888888, 0x88888888), TagField.OUTSIDE);
        for (int i = 1; i <= 16; i++) {
            x.tag(4, i, 0, 0);
        }
        Desk.due("size and a number that is taken", x.tag(5, 16, 0, 0), TagField.OUTSIDE);
        Desk.due("size and no room", x.tag(8, 17, 0, 0), TagField.OUTSIDE);
        Desk.due("size, 136 and no room", x.tag(0, 0x88888888, 0x88888888, 0), TagField.OUTSIDE);
        Desk.due("136 and no room", x.tag(4, 0x88000000, 0, 0), TagField.STATE);
        Desk.due("136 and no room, of 7", x.tag(7, 0x88, 0, 0), TagField.STATE);
        Desk.due("136 and no room, of 10", x.tag(10, 0, 0x8800, 0), TagField.STATE);
        Desk.due("a number that is taken and no room", x.tag(4, 16, 0, 0), TagField.STATE);
        Desk.due("no room alone", x.tag(4, 17, 0, 0), TagField.ROOM);
    }

    private static void outsideBeforeRoomInBits() {
        Desk.sentence("Terms", ORDER);
        Desk desk = new Desk();
        desk.zeros(160);
        for (int n : new int[] {Integer.MIN_VALUE, -1, 0, 33, Integer.MAX_VALUE}) {
            Desk.due("bits(0, " + n + ") behind 160", desk.field.bits(0, n), TagField.OUTSIDE);
        }
        Desk.due("bits(0, 1) behind 160", desk.field.bits(0, 1), TagField.ROOM);
        Desk.due("bits(0, 32) behind 160", desk.field.bits(0, 32), TagField.ROOM);
    }

    private static void stateBeforeRoomInCheck() {
        Desk.sentence("Terms", ORDER);
        for (int typed = 143; typed <= 160; typed++) {
            Desk desk = new Desk();
            desk.zeros(typed);
            Desk.due("check() behind " + typed + " zeros", desk.field.check(), TagField.STATE);
        }
    }

    /** Two runs of the same calls, one of them with refused ones between: all that can be seen is the same. */
    private static void changesNothing() {
        Desk.sentence("Terms", "A call that is refused changes nothing.");
        for (int state : Way.STATES) {
            Desk plain = new Desk();
            Desk other = new Desk();
            for (Desk desk : new Desk[] {plain, other}) {
                Way.bring(desk);
                desk.field.out(1, true);
                desk.four(0x01020304);
                desk.field.round();
                desk.field.out(1, false);
                Way.lead(desk, state);
                desk.field.bits(Desk.WAKE, 7);
            }
            refusedCalls(other.field);
            Desk.due("after refused calls, the way to " + state, seen(other), seen(plain));
            Desk.due("go() with what was typed", other.field.go(), plain.field.go());
            Desk.due("after go", seen(other), seen(plain));
        }
    }

    private static void refusedCalls(TagField x) {
        int[] answers = {
            x.state(0), x.state(3), x.state(-1), x.out(0, true), x.out(3, true), x.out(3, false),
            x.tag(5, 1, 2, 3), x.tag(0, 1, 2, 3), x.tag(4, 0x88000000, 0, 0), x.tag(4, 0x01020304, 9, 9),
            x.bits(-1, 0), x.bits(-1, 33), x.bits(-1, -1), x.check(),
        };
        for (int answer : answers) {
            Desk.due("refused", answer <= TagField.UNKNOWN && answer >= TagField.ROOM, true);
        }
    }

    private static String seen(Desk desk) {
        StringBuilder text = new StringBuilder(desk.states(4));
        text.append(" answer ").append(desk.answer());
        text.append(" found ").append(desk.found(0)).append(desk.found(1));
        text.append(" frames ").append(desk.field.frames());
        return text.toString();
    }

    private static void fullChangesNothing() {
        Desk.sentence("Terms", "A call that is refused changes nothing.");
        Desk desk = new Desk();
        for (int i = 1; i <= 16; i++) {
            desk.four(i);
        }
        desk.request();
        for (int i = 1; i <= 17; i++) {
            desk.field.octet(i);
        }
        String before = seen(desk);
        Desk.due("tag(4, ..)", desk.field.tag(4, 17, 0, 0), TagField.ROOM);
        Desk.due("octet(1) behind 153", desk.field.octet(1), TagField.ROOM);
        Desk.due("check() behind 153", desk.field.check(), TagField.ROOM);
        Desk.due("bits(1, 8) behind 153", desk.field.bits(1, 8), TagField.ROOM);
        Desk.due("all that is seen", seen(desk), before);
        Desk.due("bits(1, 7) behind 153, still", desk.field.bits(1, 7), 160);
    }
}
