/** Promise 10: state. */
public final class StateTest {
    public static void main(String[] args) {
        everyState();
        outOrOff();
        tenForEachLevelMore();
        noLevelBesideReady();
        unknownTags();
        Desk.end();
    }

    private static void everyState() {
        Desk.sentence("Promise 10", "A tag's STATE");
        for (int state : Way.STATES) {
            Desk desk = new Desk();
            Way.bringTo(desk, state);
            Desk.due("state(1) asked once more", desk.field.state(1), state);
            desk.four(0x01020304);
            Desk.due("state(2) of another tag", desk.field.state(2), 1);
            Desk.due("state(1) still", desk.field.state(1), state);
        }
    }

    private static void outOrOff() {
        Desk.sentence("Terms", "0 OUT of the field, or the field is off");
        for (int state : Way.STATES) {
            Desk out = new Desk();
            Way.bringTo(out, state);
            out.field.out(1, true);
            Desk.due("out, field on, from " + state, out.field.state(1), 0);
            out.field.field(false);
            Desk.due("out, field off", out.field.state(1), 0);
            out.field.out(1, false);
            Desk.due("in, field off", out.field.state(1), 0);
            Desk off = new Desk();
            Way.bringTo(off, state);
            off.field.field(false);
            Desk.due("in, field off, from " + state, off.field.state(1), 0);
        }
    }

    private static void tenForEachLevelMore() {
        Desk.sentence("Promise 10", "10 for each level more than the first in READY (2, 5).");
        int[] four = Desk.five(1, 2, 3, 4);
        for (int woken = 0; woken <= 3; woken += 3) {
            Desk desk = new Desk();
            desk.field.tag(7, 0x01020304, 0x05060700, 0);
            desk.field.tag(10, 0x01020308, 0x05060708, 0x090A0000);
            desk.four(0x01020304);
            if (woken > 0) {
                desk.field.round();
            }
            desk.wake();
            Desk.due("level 1", desk.states(3), woken == 0 ? "2 2 2" : "5 5 5");
            desk.choose(1, Desk.five(136, 1, 2, 3));
            Desk.due("level 2", desk.states(3), woken == 0 ? "12 12 1" : "15 15 4");
            desk.choose(2, Desk.five(136, 8, 5, 6));
            Desk.due("level 3", desk.states(3), woken == 0 ? "1 22 1" : "4 25 4");
            desk.field.go();
            desk.wake();
            desk.choose(1, four);
            Desk.due("ACTIVE", desk.states(3), woken == 0 ? "1 1 3" : "4 4 6");
        }
    }

    private static void noLevelBesideReady() {
        Desk.sentence("Promise 10", "in READY (2, 5)");
        for (int woken = 0; woken <= 3; woken += 3) {
            Desk desk = new Desk();
            Way.bringTo(desk, 22 + woken);
            desk.choose(3, Way.SHOWN[2]);
            Desk.due("ACTIVE, from level 3", desk.field.state(1), 3 + woken);
            desk.activate(0);
            Desk.due("PROTOCOL, from level 3", desk.field.state(1), 7);
            desk.release();
            Desk.due("HALTED, from level 3", desk.field.state(1), 4);
            Desk back = new Desk();
            Way.bringTo(back, 22 + woken);
            back.field.go();
            Desk.due("BACK, from level 3", back.field.state(1), woken == 0 ? 1 : 4);
            back.field.out(1, true);
            Desk.due("OUT, from level 3", back.field.state(1), 0);
        }
    }

    private static void unknownTags() {
        Desk.sentence("Promise 10", "UNKNOWN.");
        TagField x = new TagField();
        for (int tags = 0; tags <= 16; tags++) {
            for (int tag : new int[] {Integer.MIN_VALUE, -1, 0, tags + 1, 17, Integer.MAX_VALUE}) {
                Desk.due("state(" + tag + ") of " + tags, x.state(tag), TagField.UNKNOWN);
            }
            x.tag(4, tags, 0, 0);
        }
        Desk.due("state(1) of 16", x.state(1), 1);
        Desk.due("state(16) of 16", x.state(16), 1);
    }
}
