/** Promise 6: octet. */
public final class OctetTest {
    public static void main(String[] args) {
        parityMakesOnesOdd();
        lowestEightBits();
        behindWhatWasTyped();
        room();
        Desk.end();
    }

    private static Desk activeDesk() {
        Desk desk = new Desk();
        Way.bringTo(desk, 3);
        return desk;
    }

    /** A tag hears an octet's parity, and check() looks at it. */
    private static void parityMakesOnesOdd() {
        Desk.sentence("Terms", "An OCTET is a byte, its lowest bit first, and a parity bit that makes the number of"
                + " ones odd.");
        for (int v = 0; v < 256; v++) {
            int ones = Integer.bitCount(v);
            int nine = ones % 2 == 0 ? v | 256 : v;
            TagField x = new TagField();
            x.bits(nine, 9);
            Desk.due("check() of " + v + " with " + ones + " ones and its parity", x.check(), 27);
            x.go();
            x.bits(nine ^ 256, 9);
            Desk.due("check() of " + v + " with the other parity", x.check(), TagField.STATE);
            Desk desk = activeDesk();
            Desk.due("ACTIVATE, bit by bit", desk.send(Model.checkedOctets(0xE0, v)), 45);
            Desk.due("octet of " + v + " that is answered", desk.answer().substring(18, 27), Desk.octets(v));
        }
    }

    private static void lowestEightBits() {
        Desk.sentence("Promise 6", "The octet of v's lowest eight bits");
        for (int b = 0; b < 256; b++) {
            for (int v : new int[] {b, b + 256, b - 256, b | 0x7FFFFF00, b | Integer.MIN_VALUE}) {
                Desk desk = activeDesk();
                desk.field.octet(0xE0);
                desk.field.octet(v);
                desk.field.check();
                Desk.due("ACTIVATE with octet(" + v + ")", desk.field.go(), 45);
                Desk.due("the byte that came", desk.answer().substring(18, 27), Desk.octets(b));
            }
        }
    }

    private static void behindWhatWasTyped() {
        Desk.sentence("Promise 6", "behind what was typed: how many bits.");
        TagField x = new TagField();
        Desk.due("octet(1) behind nothing", x.octet(1), 9);
        Desk.due("octet(1) behind an octet", x.octet(1), 18);
        Desk.due("bits(0, 1)", x.bits(0, 1), 19);
        Desk.due("octet(1) behind a bit", x.octet(1), 28);
        x.go();
        Desk.due("octet(1) behind nothing again", x.octet(1), 9);
        Desk desk = new Desk();
        desk.four(0x01020304);
        desk.request();
        String first = Desk.octets(0x93);
        for (int i = 0; i < 9; i++) {
            desk.field.bits(first.charAt(i) - '0', 1);
        }
        desk.field.octet(0x20);
        Desk.due("go(): a SEARCH, bits and then an octet", desk.field.go(), 45);
    }

    private static void room() {
        Desk.sentence("Promise 6", "ROOM.");
        for (int typed = 140; typed <= 160; typed++) {
            Desk desk = new Desk();
            desk.zeros(typed);
            Desk.due("octet(0) behind " + typed, desk.field.octet(0), typed <= 151 ? typed + 9 : TagField.ROOM);
        }
        TagField x = new TagField();
        for (int i = 1; i <= 17; i++) {
            Desk.due("octet " + i, x.octet(255), 9 * i);
        }
        Desk.due("octet 18", x.octet(255), TagField.ROOM);
        Desk.due("bits(0, 7) behind 17 octets", x.bits(0, 7), 160);
    }
}
