/** Promise 7: check. */
public final class CheckTest {
    public static void main(String[] args) {
        checkBytesOfTheDocument();
        knownCheckBytes();
        twoOctetsBehind();
        notARowOfOctets();
        oneOctetAtLeast();
        wrongParities();
        room();
        Desk.end();
    }

    /** The words of the document, each step by itself. */
    private static int[] checkByWords(int... bytes) {
        int x = 0x6363;
        for (int b : bytes) {
            int y = b ^ (x % 256);
            y = (y ^ (y * 16)) % 256;
            x = ((x / 256) ^ (y * 256) ^ (y * 8) ^ (y / 16)) % 65536;
        }
        return new int[] {x % 256, x / 256};
    }

    private static void checkBytesOfTheDocument() {
        Desk.sentence("Terms", "x becomes x / 256 xor y times 256 xor y times 8 xor y / 16 (cut, 16 bits)");
        for (int b = 0; b < 256; b++) {
            int[] check = checkByWords(0xE0, b);
            Desk literal = new Desk();
            Way.bringTo(literal, 3);
            Desk.due("ACTIVATE " + b, literal.send(Desk.octets(0xE0, b, check[0], check[1])), 45);
            int[] answered = checkByWords(3, 2, b);
            Desk.due("its answer", literal.answer(), Desk.octets(3, 2, b, answered[0], answered[1]));
            Desk typed = new Desk();
            Way.bringTo(typed, 3);
            Desk.due("ACTIVATE " + b + " with check()", typed.activate(b), 45);
        }
    }

    private static void knownCheckBytes() {
        Desk.sentence("Terms", "the first check byte is the lowest eight bits of x, the second one the others");
        Desk desk = new Desk();
        Way.bringTo(desk, 3);
        desk.send(Desk.octets(0x50, 0x00, 0x57, 0xCD));
        Desk.due("HALT with 57 CD", desk.field.state(1), 4);
        Desk other = new Desk();
        Way.bringTo(other, 7);
        Desk.due("RELEASE with B4 E0", other.send(Desk.octets(0xC2, 0xB4, 0xE0)), 0);
        Desk.due("RELEASE with E0 B4", other.send(Desk.octets(0xC2, 0xE0, 0xB4)), 27);
        Desk.due("its answer", other.answer(), Desk.octets(0xC2, 0xE0, 0xB4));
    }

    private static void twoOctetsBehind() {
        Desk.sentence("Promise 7", "Two octets of check bytes of all that was typed behind it: how many bits.");
        TagField x = new TagField();
        for (int octets = 1; octets <= 15; octets++) {
            for (int i = 1; i <= octets; i++) {
                x.octet(i);
            }
            Desk.due("check() behind " + octets + " octets", x.check(), 9 * octets + 18);
            x.go();
        }
        Desk desk = new Desk();
        Way.bringTo(desk, 22);
        Desk.due("CHOOSE, seven octets and check()", desk.choose(3, Way.SHOWN[2]), 27);
        Desk.due("ACTIVATE, two octets and check()", desk.activate(255), 45);
        Desk.due("RELEASE, one octet and check()", desk.release(), 27);
        desk.field.octet(1);
        Desk.due("check()", desk.field.check(), 27);
        Desk.due("check() behind it: octets, too", desk.field.check(), 45);
    }

    private static void notARowOfOctets() {
        Desk.sentence("Promise 7", "STATE (it is not a row of octets with right parities");
        for (int n = 1; n <= 160; n++) {
            TagField x = new TagField();
            for (int i = 0; i < n; i++) {
                x.bits(i % 9 == 8 ? 1 : 0, 1);
            }
            int due = n % 9 != 0 ? TagField.STATE : n <= 142 ? n + 18 : TagField.ROOM;
            Desk.due("check() behind " + n + " bits", x.check(), due);
        }
        Desk desk = new Desk();
        desk.four(0x01020304);
        desk.field.bits(Desk.REQUEST, 7);
        Desk.due("check() behind a REQUEST", desk.field.check(), TagField.STATE);
        Desk.due("go(): nothing came behind it", desk.field.go(), 18);
    }

    private static void oneOctetAtLeast() {
        Desk.sentence("Promise 7", "one at least");
        TagField x = new TagField();
        Desk.due("check() of nothing, new", x.check(), TagField.STATE);
        x.octet(0);
        Desk.due("check() of one octet", x.check(), 27);
        x.go();
        Desk.due("check() of nothing, after go", x.check(), TagField.STATE);
        Desk.due("bits(0, 1): nothing was typed", x.bits(0, 1), 1);
    }

    private static void wrongParities() {
        Desk.sentence("Promise 7", "with right parities");
        for (int wrong = 0; wrong < 17; wrong++) {
            TagField x = new TagField();
            for (int i = 0; i < 17; i++) {
                x.bits(i == wrong ? 0 : 256, 9);
            }
            Desk.due("check() with octet " + wrong + " wrong", x.check(), TagField.STATE);
            x.go();
            x.octet(wrong);
            Desk.due("check() after go", x.check(), 27);
        }
    }

    private static void room() {
        Desk.sentence("Promise 7", "ROOM.");
        TagField x = new TagField();
        for (int i = 1; i <= 15; i++) {
            x.octet(i);
        }
        Desk.due("check() behind 135", x.check(), 153);
        Desk.due("check() behind 153", x.check(), TagField.ROOM);
        Desk.due("bits(0, 7) behind 153, still", x.bits(0, 7), 160);
        x.go();
        for (int i = 1; i <= 16; i++) {
            x.octet(i);
        }
        Desk.due("check() behind 144", x.check(), TagField.ROOM);
        Desk.due("octet(0) behind 144, still", x.octet(0), 153);
    }
}
