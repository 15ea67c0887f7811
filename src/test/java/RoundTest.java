import java.util.List;

/** Promises 11, 12, 13: round, found, frames. */
public final class RoundTest {
    public static void main(String[] args) {
        onesFirst();
        levelsThatBeginAlike();
        collisionsAtEveryBit();
        whoIsNotFound();
        whoIsReadyIsFoundLater();
        typedStays();
        framesAreCounted();
        foundOutside();
        foundIsOfTheLatestRound();
        whileTheFieldIsOff();
        Desk.end();
    }

    private static void states(Desk desk, Integer... states) {
        for (int i = 0; i < states.length; i++) {
            Desk.due("state(" + (i + 1) + ")", desk.field.state(i + 1), states[i]);
        }
    }

    private static void onesFirst() {
        Desk desk = new Desk();
        desk.four(0x02000000);
        desk.four(0x01000000);
        desk.four(0x03000000);
        Desk.due("round()", desk.field.round(), 3);
        Desk.due("first", desk.found(0), List.of(3, 0, 0, 0));
        Desk.due("second", desk.found(1), List.of(1, 0, 0, 0));
        Desk.due("third", desk.found(2), List.of(2, 0, 0, 0));
        Desk.due("no fourth", desk.found(3), List.of());
        states(desk, 4, 4, 4);
    }

    private static void levelsThatBeginAlike() {
        Desk desk = new Desk();
        desk.field.tag(7, 0x01020304, 0x05060700, 0);
        desk.field.tag(10, 0x01020304, 0x05060708, 0x090A0000);
        desk.field.tag(10, 0x01020304, 0x05060708, 0x090B0000);
        desk.four(0x01020304);
        Desk.due("round()", desk.field.round(), 4);
        // The first bits of 1 and 136, then those of 4 and 136, then those of 10 and 11 are told apart.
        Desk.due("first", desk.found(0), List.of(1, 2, 3, 4));
        Desk.due("second", desk.found(1), List.of(1, 2, 3, 4, 5, 6, 7));
        Desk.due("third", desk.found(2), List.of(1, 2, 3, 4, 5, 6, 7, 8, 9, 11));
        Desk.due("fourth", desk.found(3), List.of(1, 2, 3, 4, 5, 6, 7, 8, 9, 10));
        states(desk, 4, 4, 4, 4);
        // 4 bytes: 2 searches; 7: 1 + 2; 10: 1 + 1 + 2, then 1 + 1 + 1. REQUEST and HALT, one CHOOSE a level.
        Desk.due("frames()", desk.field.frames(), (2 + 2 + 1) + (2 + 3 + 2) + (2 + 4 + 3) + (2 + 3 + 3) + 1);
    }

    private static void collisionsAtEveryBit() {
        for (int bit = 0; bit < 32; bit++) {
            int mask = 1 << (24 - 8 * (bit / 8) + bit % 8);
            Desk desk = new Desk();
            desk.four(0x5A69A53C & ~mask);
            desk.four(0x5A69A53C | mask);
            Desk.due("round(), bit " + bit, desk.field.round(), 2);
            List<Integer> first = desk.found(0);
            Desk.due("the one with a 1 is the first", first.get(bit / 8) >> (bit % 8) & 1, 1);
            Desk.due("the one with a 0 is the second", desk.found(1).get(bit / 8) >> (bit % 8) & 1, 0);
            Desk.due("frames()", desk.field.frames(), 5 + 4 + 1);
        }
    }

    private static void whoIsNotFound() {
        Desk desk = new Desk();
        desk.four(0x01010101);
        desk.request();
        desk.choose(1, Desk.five(1, 1, 1, 1));
        desk.activate(0);
        desk.four(0x02020202);
        desk.request();
        desk.choose(1, Desk.five(2, 2, 2, 2));
        desk.halt();
        desk.four(0x03030303);
        desk.field.out(3, true);
        states(desk, 7, 4, 0);
        Desk.due("round() with none that hears", desk.field.round(), 0);
        desk.four(0x04040404);
        Desk.due("round() with one that hears", desk.field.round(), 1);
        Desk.due("its number", desk.found(0), List.of(4, 4, 4, 4));
        states(desk, 7, 4, 0, 4);
        Desk.due("round() again", desk.field.round(), 0);
    }

    private static void whoIsReadyIsFoundLater() {
        Desk desk = new Desk();
        desk.four(0xFF000000);
        desk.request();
        Desk.due("round(): REQUEST sends a READY tag back", desk.field.round(), 0);
        states(desk, 1);
        desk.request();
        desk.four(0x01000000);
        Desk.due("round() with an IDLE tag beside it", desk.field.round(), 2);
        Desk.due("the IDLE one is the first", desk.found(0), List.of(1, 0, 0, 0));
        Desk.due("the READY one is the second", desk.found(1), List.of(255, 0, 0, 0));
        desk.wake();
        states(desk, 5, 5);
        Desk.due("round(): woken ones go back to HALTED", desk.field.round(), 0);
        states(desk, 4, 4);
    }

    private static void typedStays() {
        Desk desk = new Desk();
        desk.four(0x01020304);
        desk.four(0x01020305);
        desk.field.bits(Desk.WAKE, 7);
        Desk.due("round()", desk.field.round(), 2);
        Desk.due("go() with what was typed before", desk.field.go(), 18);
        states(desk, 5, 5);
    }

    private static void framesAreCounted() {
        Desk desk = new Desk();
        desk.four(0x01020304);
        Desk.due("frames(), new", desk.field.frames(), 0);
        desk.field.bits(Desk.REQUEST, 7);
        Desk.due("frames(), typed only", desk.field.frames(), 0);
        desk.field.go();
        Desk.due("frames() after go", desk.field.frames(), 1);
        desk.field.go();
        Desk.due("frames() after a go with nothing", desk.field.frames(), 2);
        desk.field.round();
        Desk.due("frames() after a round", desk.field.frames(), 7);
        desk.field.round();
        Desk.due("frames() after a round without answers", desk.field.frames(), 8);
        desk.field.bits(0, 33);
        desk.field.check();
        desk.field.tag(5, 0, 0, 0);
        Desk.due("frames() after refusals", desk.field.frames(), 8);
    }

    private static void foundOutside() {
        Desk desk = new Desk();
        desk.four(0x01020304);
        desk.field.tag(7, 0x01020304, 0x05060700, 0);
        desk.field.tag(10, 0x02020304, 0x05060708, 0x090A0000);
        desk.field.round();
        for (int i : new int[] {Integer.MIN_VALUE, -1, 3, 39, 40, Integer.MAX_VALUE}) {
            Desk.due("found(" + i + ", 0)", desk.field.found(i, 0), TagField.NONE);
        }
        int[] sizes = {4, 7, 10};
        for (int i = 0; i < 3; i++) {
            for (int k : new int[] {Integer.MIN_VALUE, -1, sizes[i], 10, 11, Integer.MAX_VALUE}) {
                Desk.due("found(" + i + ", " + k + ")", desk.field.found(i, k), TagField.NONE);
            }
            Desk.due("its last byte", desk.field.found(i, sizes[i] - 1), sizes[i]);
        }
    }

    private static void foundIsOfTheLatestRound() {
        Desk desk = new Desk();
        desk.field.tag(10, 0x01020304, 0x05060708, 0x090A0000);
        desk.field.round();
        desk.four(0x0B0C0D0E);
        desk.request();
        desk.field.go();
        Desk.due("found() after go", desk.found(0), List.of(1, 2, 3, 4, 5, 6, 7, 8, 9, 10));
        Desk.due("round()", desk.field.round(), 1);
        Desk.due("found() of the shorter number", desk.found(0), List.of(11, 12, 13, 14));
        Desk.due("round() without answers", desk.field.round(), 0);
        Desk.due("found() of a round that found none", desk.found(0), List.of());
    }

    private static void whileTheFieldIsOff() {
        Desk desk = new Desk();
        desk.four(0x01020304);
        desk.field.field(false);
        Desk.due("round(), off", desk.field.round(), 0);
        Desk.due("frames(), off: one REQUEST", desk.field.frames(), 1);
        desk.field.go();
        Desk.due("frames(), off, after go", desk.field.frames(), 2);
        Desk.due("state(1), off", desk.field.state(1), 0);
        desk.field.field(true);
        Desk.due("round(), on", desk.field.round(), 1);
    }
}
