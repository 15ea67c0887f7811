import java.util.List;

/** Promise 11: round, and the terms' words of a ROUND. */
public final class RoundTest {
    public static void main(String[] args) {
        howManyAreFound();
        typedStays();
        endsWhenNothingAnswers();
        whoDoesNotAnswerIsNotFound();
        whoIsReadyIsFoundLater();
        firstCollisionAtEveryBit();
        onesFirst();
        parityBitsDoNotCount();
        untilFortyAreKnown();
        levels();
        levelsThatBeginAlike();
        haltIsNotAnswered();
        answerOfGoStays();
        Desk.end();
    }

    private static void howManyAreFound() {
        Desk.sentence("Promise 11", "A ROUND: how many are FOUND.");
        for (int tags = 0; tags <= 16; tags++) {
            Desk desk = new Desk();
            for (int i = 0; i < tags; i++) {
                desk.field.tag(4 + i % 3 * 3, 0x01020300 + 37 * i, 0x05060708, 0x090A0000);
            }
            Desk.due("round() of " + tags, desk.field.round(), tags);
            for (int i = 1; i <= tags; i++) {
                Desk.due("state(" + i + ")", desk.field.state(i), 4);
            }
            Desk.due("round() again: all are HALTED", desk.field.round(), 0);
        }
    }

    private static void typedStays() {
        Desk.sentence("Terms", "(whatever was typed stays)");
        Desk desk = new Desk();
        desk.four(0x01020304);
        desk.four(0x01020305);
        desk.field.bits(Desk.WAKE, 7);
        Desk.due("round()", desk.field.round(), 2);
        Desk.due("go() with what was typed before", desk.field.go(), 18);
        Desk.due("states", desk.states(2), "5 5");
        Desk.due("round() without answers", desk.field.round(), 0);
        Desk.due("bits(0, 1): nothing was typed", desk.field.bits(0, 1), 1);
        desk.zeros(159);
        desk.field.field(false);
        desk.field.field(true);
        Desk.due("round() with 160 bits typed", desk.field.round(), 2);
        Desk.due("bits(0, 1): still 160", desk.field.bits(0, 1), TagField.ROOM);
        desk.field.go();
        desk.field.octet(0xC2);
        desk.field.round();
        Desk.due("check() behind an octet from before", desk.field.check(), 27);
    }

    private static void endsWhenNothingAnswers() {
        Desk.sentence("Terms", "REQUEST; it ends when nothing answers.");
        Desk desk = new Desk();
        endsAtOnce("no tags", desk);
        desk.four(0x01020304);
        desk.four(0x01020305);
        desk.field.out(1, true);
        desk.field.out(2, true);
        endsAtOnce("all are out", desk);
        desk.field.field(false);
        endsAtOnce("out and off", desk);
        desk.field.out(1, false);
        desk.field.out(2, false);
        endsAtOnce("off", desk);
        desk.field.field(true);
        Desk.due("round(), on", desk.field.round(), 2);
        endsAtOnce("all are HALTED", desk);
        desk.wake();
        endsAtOnce("all are woken", desk);
        Desk.due("states: REQUEST sent them BACK", desk.states(2), "4 4");
    }

    private static void endsAtOnce(String when, Desk desk) {
        int frames = desk.field.frames();
        Desk.due("round(): " + when, desk.field.round(), 0);
        Desk.due("frames(), one REQUEST more: " + when, desk.field.frames(), frames + 1);
        Desk.due("found(0, 0): " + when, desk.field.found(0, 0), TagField.NONE);
    }

    private static void whoDoesNotAnswerIsNotFound() {
        Desk.sentence("Terms", "again and again: REQUEST");
        Desk desk = new Desk();
        desk.four(0x01010101);
        desk.request();
        desk.choose(1, Desk.five(1, 1, 1, 1));
        desk.activate(0);
        desk.four(0x02020202);
        desk.request();
        desk.choose(1, Desk.five(2, 2, 2, 2));
        desk.halt();
        desk.four(0x03030303);
        desk.field.out(3, true);
        Desk.due("states", desk.states(3), "7 4 0");
        Desk.due("round() with none that hears", desk.field.round(), 0);
        desk.four(0x04040404);
        Desk.due("round() with one that hears", desk.field.round(), 1);
        Desk.due("its number", desk.found(0), List.of(4, 4, 4, 4));
        Desk.due("states", desk.states(4), "7 4 0 4");
    }

    private static void whoIsReadyIsFoundLater() {
        Desk.sentence("Terms", "REQUEST; it ends when nothing answers");
        for (int state : new int[] {2, 12, 22, 3}) {
            Desk alone = new Desk();
            Way.bringTo(alone, state);
            Desk.due("round() with one in " + state, alone.field.round(), 0);
            Desk.due("REQUEST sent it BACK", alone.field.state(1), 1);
            Desk.due("round() again", alone.field.round(), 1);
            Desk desk = new Desk();
            Way.bringTo(desk, state);
            desk.four(0x01000000);
            Desk.due("round() with an IDLE tag beside it", desk.field.round(), 2);
            Desk.due("the IDLE one is the first", desk.found(0), List.of(1, 0, 0, 0));
            Desk.due("states", desk.states(2), "4 4");
        }
    }

    private static void firstCollisionAtEveryBit() {
        Desk.sentence("Terms", "of what answers all bits up to the first collision");
        for (int bit = 0; bit < 32; bit++) {
            Desk desk = new Desk();
            desk.four(0x5A69A53C & ~shownBit(bit));
            desk.four(0x5A69A53C | shownBit(bit));
            Desk.due("round(), bit " + bit, desk.field.round(), 2);
            Desk.due("the one with a 1 is the first", number(desk, 0), 0x5A69A53C | shownBit(bit));
            Desk.due("the one with a 0 is the second", number(desk, 1), 0x5A69A53C & ~shownBit(bit));
            // REQUEST, two SEARCHes, CHOOSE, HALT; REQUEST, SEARCH, CHOOSE, HALT; REQUEST.
            Desk.due("frames()", desk.field.frames(), 5 + 4 + 1);
        }
    }

    private static void onesFirst() {
        Desk.sentence("Terms", "are known, and a 1 at it; SEARCH with these, and so on");
        Desk desk = new Desk();
        desk.four(0x02000000);
        desk.four(0x01000000);
        desk.four(0x03000000);
        Desk.due("round()", desk.field.round(), 3);
        Desk.due("first", desk.found(0), List.of(3, 0, 0, 0));
        Desk.due("second", desk.found(1), List.of(1, 0, 0, 0));
        Desk.due("third", desk.found(2), List.of(2, 0, 0, 0));
        Desk.due("no fourth", desk.found(3), List.of());
        // 3: collisions at bits 0 and 1; 1: at bit 0; 2: none.
        Desk.due("frames()", desk.field.frames(), (3 + 3) + (3 + 2) + (3 + 1) + 1);
    }

    /** One bit that differs makes parities differ, two do not: the way is as long. */
    private static void parityBitsDoNotCount() {
        Desk.sentence("Terms", "(parity bits do not count for that, but a collision that only parity bits have is"
                + " none)");
        for (int bit = 0; bit < 24; bit++) {
            for (int next = 1; next <= 8; next += 7) {
                Desk desk = new Desk();
                desk.four(0);
                desk.four(shownBit(bit) | shownBit(bit + next));
                desk.four(shownBit(bit + next));
                Desk.due("round(), bits " + bit + ", " + (bit + next), desk.field.round(), 3);
                Desk.due("first", number(desk, 0), shownBit(bit) | shownBit(bit + next));
                Desk.due("second", number(desk, 1), shownBit(bit + next));
                Desk.due("third", number(desk, 2), 0);
                Desk.due("frames()", desk.field.frames(), (3 + 2) + (3 + 2) + (3 + 1) + 1);
            }
        }
    }

    /** A number of four bytes with a 1 at just that bit of those that it shows. */
    private static int shownBit(int bit) {
        return 1 << (24 - 8 * (bit / 8) + bit % 8);
    }

    private static int number(Desk desk, int i) {
        int number = 0;
        for (int k = 0; k < 4; k++) {
            number = number << 8 | desk.field.found(i, k);
        }
        return number;
    }

    /** Sixteen tags that show 1s and then 0s: each is told from the next one by one SEARCH more. */
    private static void untilFortyAreKnown() {
        Desk.sentence("Terms", "until forty are known");
        for (int from = 0; from <= 16; from++) {
            Desk desk = new Desk();
            int ones = 0;
            for (int bit = 0; bit < from; bit++) {
                ones |= shownBit(bit);
            }
            for (int i = 0; i < 16; i++) {
                desk.four(ones);
                ones |= shownBit(from + i);
            }
            Desk.due("round() from bit " + from, desk.field.round(), 16);
            int searches = 16 * 17 / 2;
            Desk.due("frames()", desk.field.frames(), searches + 3 * 16 + 1);
        }
    }

    private static void levels() {
        Desk.sentence("Terms", "CHOOSE; if B says 4 the next level, else the number is FOUND; HALT.");
        for (int levels = 1; levels <= 3; levels++) {
            Desk desk = new Desk();
            int size = 1 + 3 * levels;
            desk.field.tag(size, 0x01020304, 0x05060708, 0x090A0000);
            Desk.due("round()", desk.field.round(), 1);
            List<Integer> number = List.of(1, 2, 3, 4, 5, 6, 7, 8, 9, 10).subList(0, size);
            Desk.due("number of " + size + " bytes", desk.found(0), number);
            Desk.due("frames()", desk.field.frames(), 2 + 2 * levels + 1);
            Desk.due("HALTED", desk.field.state(1), 4);
        }
    }

    private static void levelsThatBeginAlike() {
        Desk.sentence("Terms", "At level 1, then 2, 3");
        Desk desk = new Desk();
        desk.field.tag(7, 0x01020304, 0x05060700, 0);
        desk.field.tag(10, 0x01020304, 0x05060708, 0x090A0000);
        desk.field.tag(10, 0x01020304, 0x05060708, 0x090B0000);
        desk.four(0x01020304);
        Desk.due("round()", desk.field.round(), 4);
        // The first bits of 1 and 136, then those of 4 and 136, then those of 10 and 11 are told apart.
        Desk.due("first", desk.found(0), List.of(1, 2, 3, 4));
        Desk.due("second", desk.found(1), List.of(1, 2, 3, 4, 5, 6, 7));
        Desk.due("third", desk.found(2), List.of(1, 2, 3, 4, 5, 6, 7, 8, 9, 11));
        Desk.due("fourth", desk.found(3), List.of(1, 2, 3, 4, 5, 6, 7, 8, 9, 10));
        Desk.due("states", desk.states(4), "4 4 4 4");
        // 4 bytes: 2 searches; 7: 1 + 2; 10: 1 + 1 + 2, then 1 + 1 + 1. REQUEST and HALT, one CHOOSE a level.
        Desk.due("frames()", desk.field.frames(), (2 + 2 + 1) + (2 + 3 + 2) + (2 + 4 + 3) + (2 + 3 + 3) + 1);
    }

    /** That forty are found, or a SEARCH or CHOOSE is not answered, no run of calls can bring about. */
    private static void haltIsNotAnswered() {
        Desk.sentence("Terms", "(It ends, too, when something that it sends, but HALT, is not answered, or forty"
                + " found.)");
        Desk desk = new Desk();
        desk.four(0x00000000);
        desk.four(0x00000001);
        Desk.due("round() goes on after HALT", desk.field.round(), 2);
        Desk.due("frames(): REQUEST is not answered at last", desk.field.frames(), 5 + 4 + 1);
    }

    private static void answerOfGoStays() {
        Desk.sentence("Promise 9", "latest by go");
        Desk desk = new Desk();
        desk.four(0x01020304);
        desk.field.round();
        Desk.due("answer(0) after a round", desk.field.answer(0), TagField.NONE);
    }
}
