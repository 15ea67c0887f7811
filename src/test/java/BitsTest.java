/** Promise 5: bits. */
public final class BitsTest {
    public static void main(String[] args) {
        lowestFirst();
        onlySoManyBitsOfIt();
        behindThoseThatWereTyped();
        outside();
        room();
        Desk.end();
    }

    private static void lowestFirst() {
        Desk.sentence("Promise 5", "n bits of v, lowest first");
        Desk desk = new Desk();
        desk.four(0x01020304);
        int[] five = Desk.five(1, 2, 3, 4);
        desk.request();
        String choose = Model.checkedOctets(0x93, 0x70, five[0], five[1], five[2], five[3], five[4]);
        int from = 0;
        for (int n : new int[] {32, 1, 31, 17}) {
            int v = Integer.parseUnsignedInt(
                    new StringBuilder(choose.substring(from, from + n)).reverse().toString(), 2);
            from += n;
            Desk.due("bits(.., " + n + ")", desk.field.bits(v, n), from);
        }
        Desk.due("go(): a CHOOSE", desk.field.go(), 27);
    }

    private static void onlySoManyBitsOfIt() {
        Desk.sentence("Promise 5", "n bits of v");
        Desk desk = new Desk();
        desk.four(0x01020304);
        Desk.due("bits(.., 7), all others are 1", desk.field.bits(0xFFFFFF80 | Desk.REQUEST, 7), 7);
        Desk.due("go(): a REQUEST", desk.field.go(), 18);
        desk.field.go();
        for (int i = 0; i < 7; i++) {
            int v = (Desk.REQUEST >> i & 1) == 1 ? -1 : -2;
            Desk.due("bits(" + v + ", 1)", desk.field.bits(v, 1), i + 1);
        }
        Desk.due("go(): a REQUEST, bit by bit", desk.field.go(), 18);
    }

    private static void behindThoseThatWereTyped() {
        Desk.sentence("Promise 5", "behind those that were typed: how many there are.");
        Desk desk = new Desk();
        desk.four(0x01020304);
        desk.request();
        Desk.due("octet(0x93)", desk.field.octet(0x93), 9);
        Desk.due("octet(0x23)", desk.field.octet(0x23), 18);
        Desk.due("bits(1, 3) behind octets", desk.field.bits(1, 3), 21);
        Desk.due("go(): a SEARCH", desk.field.go(), 42);
        Desk.due("bits(1, 1) behind nothing", desk.field.bits(1, 1), 1);
        Desk.due("bits(1, 32) behind it", desk.field.bits(1, 32), 33);
    }

    private static void outside() {
        Desk.sentence("Promise 5", "OUTSIDE (n is not 1 .. 32)");
        for (int n = -40; n <= 80; n++) {
            boolean inside = n >= 1 && n <= 32;
            Desk.due("bits(-1, " + n + ")", new TagField().bits(-1, n), inside ? n : TagField.OUTSIDE);
        }
        TagField x = new TagField();
        for (int n : new int[] {Integer.MIN_VALUE, Integer.MIN_VALUE + 1, Integer.MAX_VALUE}) {
            Desk.due("bits(-1, " + n + ")", x.bits(-1, n), TagField.OUTSIDE);
        }
        Desk.due("bits(0, 1) after refusals", x.bits(0, 1), 1);
    }

    private static void room() {
        Desk.sentence("Promise 5", "ROOM (there would be more than 160)");
        for (int n = 1; n <= 32; n++) {
            Desk fits = new Desk();
            fits.zeros(160 - n);
            Desk.due("bits(0, " + n + ") up to 160", fits.field.bits(0, n), 160);
            Desk.due("bits(0, 1) behind 160", fits.field.bits(0, 1), TagField.ROOM);
            Desk over = new Desk();
            over.zeros(161 - n);
            Desk.due("bits(0, " + n + ") up to 161", over.field.bits(0, n), TagField.ROOM);
            over.field.go();
            Desk.due("bits(0, " + n + ") after go", over.field.bits(0, n), n);
        }
    }
}
