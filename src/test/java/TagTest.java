import java.util.List;

/** Promise 2: tag. */
public final class TagTest {
    private static final int[] SIZES = {4, 7, 10};

    public static void main(String[] args) {
        numbersCountUpToSixteen();
        broughtIsInTheField();
        bytesAreTakenHighestFirst();
        bytesThatAreNotTaken();
        sizeOutside();
        firstByteOfTheLastLevel();
        lastLevelBeginsWith136();
        anotherTagHasThatNumber();
        likeNumbersAreOthers();
        noRoom();
        Desk.end();
    }

    private static void numbersCountUpToSixteen() {
        Desk.sentence("Terms", "TAGS 1 .. 16 have a NUMBER of 4, 7 or 10 bytes");
        TagField x = new TagField();
        for (int i = 1; i <= 16; i++) {
            Desk.due("tag " + i, x.tag(SIZES[i % 3], 0x01020300 + i, 0x05060708, 0x090A0000), i);
            Desk.due("tag(3, ..) after it", x.tag(3, 0, 0, 0), TagField.OUTSIDE);
            Desk.due("out(" + i + ", true)", x.out(i, true), 1);
            Desk.due("out(" + i + ", false)", x.out(i, i % 2 == 0), i % 2 == 0 ? 0 : 1);
        }
        for (int i = 1; i <= 16; i++) {
            Desk.due("state(" + i + ")", x.state(i), i % 2);
        }
    }

    private static void broughtIsInTheField() {
        Desk.sentence("Promise 2", "A tag more, in the field: its number among them.");
        for (int size : SIZES) {
            TagField x = new TagField();
            Desk.due("tag(" + size + ", ..)", x.tag(size, 0x01020304, 0x05060708, 0x090A0000), 1);
            Desk.due("its state", x.state(1), 1);
            Desk.due("out(1, false): it is in the field", x.out(1, false), 0);
            x.field(false);
            Desk.due("tag() while the field is off", x.tag(size, 0x11020304, 0x05060708, 0x090A0000), 2);
            Desk.due("its state", x.state(2), 0);
            Desk.due("out(2, false): it is in the field", x.out(2, false), 0);
            x.field(true);
            Desk.due("its state when the field comes on", x.state(2), 1);
        }
    }

    private static void bytesAreTakenHighestFirst() {
        Desk.sentence("Promise 2", "u0 .. u3 are the bytes of a (highest first), of 7 u4 .. u6 the three highest of b,"
                + " of 10 u4 .. u7 those of b, u8, u9 the two highest of c.");
        onlyTagIsFound(4, List.of(0xA1, 0xB2, 0xC3, 0xD4));
        onlyTagIsFound(7, List.of(0xA1, 0xB2, 0xC3, 0xD4, 0xE5, 0xF6, 0x97));
        onlyTagIsFound(10, List.of(0xA1, 0xB2, 0xC3, 0xD4, 0xE5, 0xF6, 0x97, 0x18, 0x29, 0x3A));
        Desk desk = new Desk();
        desk.field.tag(10, Integer.MIN_VALUE, -1, Integer.MAX_VALUE);
        desk.field.round();
        Desk.due("least, -1, greatest", desk.found(0), List.of(128, 0, 0, 0, 255, 255, 255, 255, 127, 255));
    }

    private static void onlyTagIsFound(int size, List<Integer> number) {
        Desk desk = new Desk();
        desk.field.tag(size, 0xA1B2C3D4, 0xE5F69718, 0x293A4B5C);
        Desk.due("round() with one tag", desk.field.round(), 1);
        Desk.due("number of " + size + " bytes", desk.found(0), number);
    }

    private static void bytesThatAreNotTaken() {
        Desk.sentence("Promise 2", "of 7 u4 .. u6 the three highest of b");
        TagField x = new TagField();
        x.tag(4, 0x01020304, 0, 0);
        x.tag(7, 0x01020304, 0x05060700, 0);
        x.tag(10, 0x01020304, 0x05060708, 0x090A0000);
        Desk.due("4 again, b and c are others", x.tag(4, 0x01020304, -1, -1), TagField.STATE);
        Desk.due("7 again, the last of b and c are others", x.tag(7, 0x01020304, 0x050607FF, -1), TagField.STATE);
        Desk.due("10 again, the last two of c are others",
                x.tag(10, 0x01020304, 0x05060708, 0x090AFFFF), TagField.STATE);
    }

    private static void sizeOutside() {
        Desk.sentence("Promise 2", "OUTSIDE (size)");
        TagField x = new TagField();
        for (int size = -20; size <= 40; size++) {
            if (size != 4 && size != 7 && size != 10) {
                Desk.due("tag(" + size + ", ..)", x.tag(size, 1, 2, 3), TagField.OUTSIDE);
            }
        }
        for (int size : new int[] {Integer.MIN_VALUE, Integer.MIN_VALUE + 4, 260, Integer.MAX_VALUE}) {
            Desk.due("tag(" + size + ", ..)", x.tag(size, 1, 2, 3), TagField.OUTSIDE);
        }
        Desk.due("tag() after refusals", x.tag(4, 1, 2, 3), 1);
    }

    private static void firstByteOfTheLastLevel() {
        Desk.sentence("Terms", "The first byte of its last level is not 136.");
        for (int b = 0; b < 256; b++) {
            int due = b == 136 ? TagField.STATE : 1;
            Desk.due("u0 of 4 is " + b, new TagField().tag(4, b << 24 | 0x010203, 0, 0), due);
            Desk.due("u3 of 7 is " + b, new TagField().tag(7, 0x01020300 | b, 0, 0), due);
            Desk.due("u6 of 10 is " + b, new TagField().tag(10, 0x01020304, b << 8, 0), due);
        }
    }

    private static void lastLevelBeginsWith136() {
        Desk.sentence("Promise 2", "STATE (the first byte of its last level is 136");
        TagField x = new TagField();
        Desk.due("u0 of 4 is 136", x.tag(4, 0x88010101, 0, 0), TagField.STATE);
        Desk.due("u3 of 7 is 136", x.tag(7, 0x01010188, 0x01010100, 0), TagField.STATE);
        Desk.due("u6 of 10 is 136", x.tag(10, 0x01010101, 0x01018801, 0x01010000), TagField.STATE);
        Desk.due("state(1) after refusals", x.state(1), TagField.UNKNOWN);
        Desk.due("u1 .. u3 of 4 are 136", x.tag(4, 0x01888888, 0x88888888, 0x88888888), 1);
        Desk.due("all of 7 but u3 are 136", x.tag(7, 0x88888801, 0x88888888, 0x88888888), 2);
        Desk.due("all of 10 but u6 are 136", x.tag(10, 0x88888888, 0x88880188, 0x88888888), 3);
        Desk.due("round() over these", x.round(), 3);
    }

    private static void anotherTagHasThatNumber() {
        Desk.sentence("Promise 2", "another tag has that number");
        for (int state : Way.STATES) {
            Desk desk = new Desk();
            Way.bringTo(desk, state);
            Desk.due("the number of a tag in state " + state, Way.bring(desk), TagField.STATE);
            desk.field.out(1, true);
            Desk.due("the number of a tag that is out", Way.bring(desk), TagField.STATE);
            desk.field.field(false);
            Desk.due("the number of a tag, off", Way.bring(desk), TagField.STATE);
            Desk.due("state(2) after refusals", desk.field.state(2), TagField.UNKNOWN);
        }
        TagField x = new TagField();
        for (int i = 1; i <= 15; i++) {
            x.tag(4, i, 0, 0);
        }
        Desk.due("the number of the first", x.tag(4, 1, 0, 0), TagField.STATE);
        Desk.due("the number of the fifteenth", x.tag(4, 15, 0, 0), TagField.STATE);
    }

    private static void likeNumbersAreOthers() {
        Desk.sentence("Promise 2", "another tag has that number");
        TagField x = new TagField();
        x.tag(10, 0x01020304, 0x05060708, 0x090A0000);
        Desk.due("its first four bytes", x.tag(4, 0x01020304, 0x05060708, 0x090A0000), 2);
        Desk.due("its first seven bytes", x.tag(7, 0x01020304, 0x05060708, 0x090A0000), 3);
        Desk.due("the last byte of 4 is another", x.tag(4, 0x01020305, 0, 0), 4);
        Desk.due("the last byte of 7 is another", x.tag(7, 0x01020304, 0x05060600, 0), 5);
        Desk.due("the last byte of 10 is another", x.tag(10, 0x01020304, 0x05060708, 0x090B0000), 6);
        Desk.due("the first byte of 10 is another", x.tag(10, 0x02020304, 0x05060708, 0x090A0000), 7);
        Desk.due("a byte in the middle is another", x.tag(10, 0x01020304, 0x15060708, 0x090A0000), 8);
        Desk.due("4 zeros", x.tag(4, 0, 0, 0), 9);
        Desk.due("7 zeros", x.tag(7, 0, 0, 0), 10);
        Desk.due("10 zeros", x.tag(10, 0, 0, 0), 11);
    }

    private static void noRoom() {
        Desk.sentence("Promise 2", "ROOM.");
        TagField x = new TagField();
        for (int i = 1; i <= 15; i++) {
            x.tag(4, i, 0, 0);
        }
        Desk.due("the sixteenth", x.tag(4, 16, 0, 0), 16);
        Desk.due("a seventeenth", x.tag(4, 17, 0, 0), TagField.ROOM);
        Desk.due("a seventeenth of 7", x.tag(7, 17, 0, 0), TagField.ROOM);
        Desk.due("a seventeenth of 10", x.tag(10, 17, 0, 0), TagField.ROOM);
        x.out(3, true);
        Desk.due("a seventeenth when one is out", x.tag(4, 17, 0, 0), TagField.ROOM);
        x.field(false);
        Desk.due("a seventeenth, off", x.tag(4, 17, 0, 0), TagField.ROOM);
        Desk.due("state(17)", x.state(17), TagField.UNKNOWN);
        x.field(true);
        Desk.due("round() over all but the one that is out", x.round(), 15);
    }
}
