/** Promises 5, 6, 7: bits, octet, check. */
public final class TypingTest {
    private static final int[] NUMBER = Desk.five(1, 2, 3, 4);

    public static void main(String[] args) {
        bitsGoLowestFirst();
        bitsOutside();
        bitsHaveRoom();
        octetsHaveOddParity();
        octetsHaveRoom();
        checkBytesAreTheKnownOnes();
        checkWantsOctets();
        checkHasRoom();
        Desk.end();
    }

    private static Desk readyDesk() {
        Desk desk = new Desk();
        desk.four(0x01020304);
        desk.request();
        return desk;
    }

    private static Desk activeDesk() {
        Desk desk = readyDesk();
        desk.choose(1, NUMBER);
        Desk.due("active", desk.field.state(1), 3);
        return desk;
    }

    private static void bitsGoLowestFirst() {
        Desk desk = new Desk();
        desk.four(0x01020304);
        Desk.due("bits(6, 3)", desk.field.bits(6, 3), 3);
        Desk.due("bits(-12, 4), of which 0100 counts", desk.field.bits(0xFFFFFFF4, 4), 7);
        Desk.due("go(): a REQUEST", desk.field.go(), 18);
        String choose = Desk.octets(0x93, 0x70, 1, 2, 3, 4, 4) + checkText(0x93, 0x70, 1, 2, 3, 4, 4);
        int from = 0;
        for (int n : new int[] {32, 1, 31, 17}) {
            long v = 0;
            for (int i = 0; i < n; i++) {
                v |= (long) (choose.charAt(from + i) - '0') << i;
            }
            from += n;
            Desk.due("bits(.., " + n + ")", desk.field.bits((int) v, n), from);
        }
        Desk.due("go(): a CHOOSE", desk.field.go(), 27);
        Desk.due("bits(1, 1) behind nothing", desk.field.bits(1, 1), 1);
    }

    private static String checkText(int... bytes) {
        int[] check = Model.check(bytes);
        return Desk.octets(check[0], check[1]);
    }

    private static void bitsOutside() {
        Desk desk = new Desk();
        desk.four(0x01020304);
        desk.field.bits(Desk.REQUEST, 7);
        for (int n : new int[] {Integer.MIN_VALUE, -1, 0, 33, 64, Integer.MAX_VALUE}) {
            Desk.due("bits(0, " + n + ")", desk.field.bits(0, n), TagField.OUTSIDE);
        }
        Desk.due("go() after refusals", desk.field.go(), 18);
    }

    private static void bitsHaveRoom() {
        TagField x = new TagField();
        for (int i = 1; i <= 4; i++) {
            x.bits(-1, 32);
        }
        Desk.due("bits(0, 1)", x.bits(0, 1), 129);
        Desk.due("bits(0, 32): one too many", x.bits(0, 32), TagField.ROOM);
        Desk.due("OUTSIDE before ROOM", x.bits(0, 33), TagField.OUTSIDE);
        Desk.due("bits(0, 31)", x.bits(0, 31), 160);
        Desk.due("bits(0, 1): full", x.bits(0, 1), TagField.ROOM);
        Desk.due("OUTSIDE before ROOM, full", x.bits(0, 0), TagField.OUTSIDE);
        x.go();
        Desk.due("bits(0, 32) after go", x.bits(0, 32), 32);
    }

    private static void octetsHaveOddParity() {
        for (int v = 0; v < 256; v++) {
            Desk desk = new Desk();
            Desk.due("octet(" + v + ")", desk.field.octet(v), 9);
            int bits = Integer.parseInt(new StringBuilder(Desk.octets(v)).reverse().toString(), 2);
            Desk.due("check() of octet " + v, desk.field.check(), 27);
            desk.field.go();
            desk.field.bits(bits, 9);
            Desk.due("check() of its nine bits", desk.field.check(), 27);
            desk.field.go();
            desk.field.bits(bits ^ 256, 9);
            Desk.due("check() with the other parity", desk.field.check(), TagField.STATE);
        }
        Desk desk = readyDesk();
        Desk.due("octet(0x793), its lowest eight bits", desk.field.octet(0x793), 9);
        Desk.due("octet(-224), its lowest eight bits", desk.field.octet(0xFFFFFF20), 18);
        Desk.due("go(): a SEARCH", desk.field.go(), 45);
    }

    private static void octetsHaveRoom() {
        Desk desk = new Desk();
        for (int i = 1; i <= 4; i++) {
            desk.field.bits(0, 32);
        }
        desk.field.bits(0, 23);
        Desk.due("octet(0) behind 151", desk.field.octet(0), 160);
        Desk.due("octet(0) behind 160", desk.field.octet(0), TagField.ROOM);
        desk.field.go();
        for (int i = 1; i <= 4; i++) {
            desk.field.bits(0, 32);
        }
        desk.field.bits(0, 24);
        Desk.due("octet(0) behind 152", desk.field.octet(0), TagField.ROOM);
        Desk.due("bits(0, 8) behind 152, still", desk.field.bits(0, 8), 160);
    }

    /** Of octets typed with literal check bytes and of check() the tag must think the same. */
    private static void checkBytesAreTheKnownOnes() {
        Desk desk = activeDesk();
        desk.send(Desk.octets(0x50, 0x00, 0x57, 0xCD));
        Desk.due("HALT with 57 CD", desk.field.state(1), 4);
        desk.wake();
        Desk.due("CHOOSE with check()", desk.choose(1, NUMBER), 27);
        Desk.due("ACTIVATE 80 with 31 73", desk.send(Desk.octets(0xE0, 0x80, 0x31, 0x73)), 45);
        Desk.due("RELEASE with E0 B4", desk.send(Desk.octets(0xC2, 0xE0, 0xB4)), 27);
        desk.wake();
        desk.choose(1, NUMBER);
        desk.field.octet(0xE0);
        desk.field.octet(0x80);
        Desk.due("check() behind two octets", desk.field.check(), 36);
        Desk.due("go(): an ACTIVATE", desk.field.go(), 45);
        desk.field.octet(0xC2);
        Desk.due("check() behind one octet", desk.field.check(), 27);
        Desk.due("go(): a RELEASE", desk.field.go(), 27);
    }

    private static void checkWantsOctets() {
        Desk desk = new Desk();
        Desk.due("check() of nothing", desk.field.check(), TagField.STATE);
        for (int n = 1; n < 27; n++) {
            desk.field.bits(0b100000000_100000000_100000000, n);
            int want = n == 9 || n == 18 ? n + 18 : TagField.STATE;
            Desk.due("check() of " + n + " bits", desk.field.check(), want);
            desk.field.go();
        }
        desk.field.octet(1);
        desk.field.bits(1 | 1 << 8, 9);
        desk.field.octet(1);
        Desk.due("check() with a wrong parity in the middle", desk.field.check(), TagField.STATE);
        Desk.due("nothing came behind it", desk.field.bits(0, 1), 28);
        desk.field.go();
        desk.four(0x01020304);
        desk.field.bits(Desk.REQUEST, 7);
        desk.field.check();
        Desk.due("go() after a refused check()", desk.field.go(), 18);
    }

    private static void checkHasRoom() {
        TagField x = new TagField();
        for (int i = 1; i <= 15; i++) {
            x.octet(i);
        }
        Desk.due("check() behind 135", x.check(), 153);
        Desk.due("check() behind 153", x.check(), TagField.ROOM);
        Desk.due("bits(0, 7) behind 153", x.bits(0, 7), 160);
        Desk.due("STATE before ROOM", x.check(), TagField.STATE);
        x.go();
        for (int i = 1; i <= 16; i++) {
            x.octet(i);
        }
        Desk.due("check() behind 144", x.check(), TagField.ROOM);
        Desk.due("octet(0) behind 144, still", x.octet(0), 153);
    }
}
