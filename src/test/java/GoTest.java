/** Promise 8: go. What each frame does is said by the terms: FrameTest, TableTest, ReplyTest. */
public final class GoTest {
    public static void main(String[] args) {
        sentAndNoneThen();
        nothingIsAFrameToo();
        fullIsAFrameToo();
        howManyBits();
        everyTagHearsIt();
        whileTheFieldIsOff();
        nothingHappensToTagsWhileOff();
        Desk.end();
    }

    private static void sentAndNoneThen() {
        Desk.sentence("Promise 8", "is sent as a frame, and is none then");
        Desk desk = new Desk();
        desk.four(0x01020304);
        desk.field.bits(Desk.REQUEST, 7);
        Desk.due("go(): a REQUEST", desk.field.go(), 18);
        Desk.due("its state", desk.field.state(1), 2);
        Desk.due("bits(0, 1): nothing is typed then", desk.field.bits(0, 1), 1);
        desk.zeros(159);
        desk.field.go();
        Desk.due("octet(0) after 160 were sent", desk.field.octet(0), 9);
        desk.field.go();
        desk.field.field(false);
        desk.field.octet(0);
        desk.field.go();
        Desk.due("octet(0) after go(), off", desk.field.octet(0), 9);
    }

    private static void nothingIsAFrameToo() {
        Desk.sentence("Promise 8", "(nothing, too: that is a frame that is none of those told)");
        for (int state : Way.STATES) {
            Desk desk = new Desk();
            Way.bringTo(desk, state);
            int frames = desk.field.frames();
            Desk.due("go() with nothing in " + state, desk.field.go(), 0);
            Desk.due("its state", desk.field.state(1), Way.back(state));
            Desk.due("frames()", desk.field.frames(), frames + 1);
        }
        TagField x = new TagField();
        Desk.due("go() with nothing, new", x.go(), 0);
        Desk.due("frames()", x.frames(), 1);
    }

    private static void fullIsAFrameToo() {
        Desk.sentence("Promise 8", "What was typed");
        Desk desk = new Desk();
        Way.bringTo(desk, 3);
        int frames = desk.field.frames();
        desk.zeros(160);
        Desk.due("go() with 160 bits", desk.field.go(), 0);
        Desk.due("its state", desk.field.state(1), 1);
        Desk.due("frames()", desk.field.frames(), frames + 1);
    }

    private static void howManyBits() {
        Desk.sentence("Promise 8", "how many bits are answered (the longest answer)");
        Desk desk = new Desk();
        desk.four(0x01020304);
        Desk.due("A", desk.request(), 18);
        Desk.due("the whole rest", desk.search(1), 45);
        Desk.due("the least rest", desk.searchBits(1, 4, 7, 1, 2, 3, 4), 2);
        Desk.due("none", desk.search(1, 2), 0);
        Desk.due("B", desk.choose(1, Desk.five(1, 2, 3, 4)), 27);
        Desk.due("C", desk.activate(0), 45);
        Desk.due("D", desk.release(), 27);
        Desk.due("a frame for nobody", desk.release(), 0);
    }

    private static void everyTagHearsIt() {
        Desk.sentence("Promise 8", "is sent as a frame");
        Desk desk = new Desk();
        for (int i = 1; i <= 16; i++) {
            desk.four(i);
        }
        desk.field.out(7, true);
        Desk.due("REQUEST to sixteen", desk.request(), 18);
        Desk.due("states", desk.states(16), "2 2 2 2 2 2 0 2 2 2 2 2 2 2 2 2");
        Desk.due("CHOOSE of the last", desk.choose(1, Desk.five(0, 0, 0, 16)), 27);
        Desk.due("states", desk.states(16), "1 1 1 1 1 1 0 1 1 1 1 1 1 1 1 3");
    }

    private static void whileTheFieldIsOff() {
        Desk.sentence("Promise 8", "While the field is off it is sent all the same, and 0");
        Desk desk = new Desk();
        desk.four(0x01020304);
        desk.request();
        desk.field.bits(Desk.WAKE, 7);
        desk.field.field(false);
        Desk.due("go() with what was typed before", desk.field.go(), 0);
        Desk.due("its answer", desk.answer(), "");
        Desk.due("frames()", desk.field.frames(), 2);
        Desk.due("bits(.., 7): what was sent is not there any more", desk.field.bits(Desk.REQUEST, 7), 7);
        Desk.due("go(): a REQUEST, off", desk.field.go(), 0);
        Desk.due("go() with nothing, off", desk.field.go(), 0);
        Desk.due("frames()", desk.field.frames(), 4);
        desk.field.field(true);
        Desk.due("REQUEST, on again", desk.request(), 18);
    }

    private static void nothingHappensToTagsWhileOff() {
        Desk.sentence("Promise 8", "nothing happens to tags");
        for (int v : new int[] {Desk.REQUEST, Desk.WAKE, 0}) {
            Desk desk = new Desk();
            desk.four(0x01020304);
            desk.four(0x01020305);
            desk.field.out(2, true);
            desk.field.field(false);
            desk.brief(v);
            Desk.due("states, off", desk.states(2), "0 0");
            desk.field.out(2, false);
            desk.brief(v);
            Desk.due("states, off, both in it", desk.states(2), "0 0");
            desk.field.field(true);
            Desk.due("states, on", desk.states(2), "1 1");
        }
    }
}
