import java.util.List;

/** Promise 2: tag. */
public final class TagTest {
    public static void main(String[] args) {
        numbersCountUp();
        bytesAreTakenHighestFirst();
        sizesOutside();
        lastLevelMayNotBeginWith136();
        numbersAreTakenOnce();
        sixteenAtMost();
        fieldMayBeOff();
        Desk.end();
    }

    private static void numbersCountUp() {
        TagField x = new TagField();
        Desk.due("tag(4, ..)", x.tag(4, 0x01020304, 0, 0), 1);
        Desk.due("tag(7, ..)", x.tag(7, 0x01020304, 0x05060700, 0), 2);
        Desk.due("tag(10, ..)", x.tag(10, 0x01020304, 0x05060708, 0x090A0000), 3);
        for (int tag = 1; tag <= 3; tag++) {
            Desk.due("state of a tag that was brought", x.state(tag), 1);
        }
    }

    private static void bytesAreTakenHighestFirst() {
        onlyTagIsFound(4, List.of(0xA1, 0xB2, 0xC3, 0xD4));
        onlyTagIsFound(7, List.of(0xA1, 0xB2, 0xC3, 0xD4, 0xE5, 0xF6, 0x97));
        onlyTagIsFound(10, List.of(0xA1, 0xB2, 0xC3, 0xD4, 0xE5, 0xF6, 0x97, 0x18, 0x29, 0x3A));
    }

    private static void onlyTagIsFound(int size, List<Integer> number) {
        Desk desk = new Desk();
        desk.field.tag(size, 0xA1B2C3D4, 0xE5F69718, 0x293A4B5C);
        Desk.due("round() with one tag", desk.field.round(), 1);
        Desk.due("number of " + size + " bytes", desk.found(0), number);
    }

    private static void sizesOutside() {
        TagField x = new TagField();
        for (int size : new int[] {Integer.MIN_VALUE, -4, 0, 1, 3, 5, 6, 8, 9, 11, 13, Integer.MAX_VALUE}) {
            Desk.due("tag(" + size + ", ..)", x.tag(size, 1, 2, 3), TagField.OUTSIDE);
        }
        Desk.due("OUTSIDE before STATE", x.tag(5, 0x88888888, 0x88888888, 0x88888888), TagField.OUTSIDE);
        Desk.due("tag() after refusals", x.tag(4, 1, 2, 3), 1);
    }

    private static void lastLevelMayNotBeginWith136() {
        TagField x = new TagField();
        Desk.due("u0 of 4 is 136", x.tag(4, 0x88010101, 0, 0), TagField.STATE);
        Desk.due("u3 of 7 is 136", x.tag(7, 0x01010188, 0x01010100, 0), TagField.STATE);
        Desk.due("u6 of 10 is 136", x.tag(10, 0x01010101, 0x01018801, 0x01010000), TagField.STATE);
        Desk.due("state(1) after refusals", x.state(1), TagField.UNKNOWN);
        Desk.due("u1 .. u3 of 4 are 136", x.tag(4, 0x01888888, 0, 0), 1);
        Desk.due("all of 7 but u3 are 136", x.tag(7, 0x88888801, 0x88888888, 0), 2);
        Desk.due("all of 10 but u6 are 136", x.tag(10, 0x88888888, 0x88880188, 0x88880000), 3);
        for (int bit = 0; bit < 8; bit++) {
            int other = (0x88 ^ 1 << bit) << 24;
            Desk.due("u0 of 4 is 136 but for bit " + bit, x.tag(4, other, 0, 0), 4 + bit);
        }
    }

    private static void numbersAreTakenOnce() {
        TagField x = new TagField();
        x.tag(4, 0x01020304, 0, 0);
        x.tag(7, 0x01020304, 0x05060700, 0);
        x.tag(10, 0x01020304, 0x05060708, 0x090A0000);
        x.out(1, true);
        Desk.due("4 again, the rest is not looked at", x.tag(4, 0x01020304, 7, 8), TagField.STATE);
        Desk.due("7 again, the rest is not looked at", x.tag(7, 0x01020304, 0x050607FF, 9), TagField.STATE);
        Desk.due("10 again, the rest is not looked at",
                x.tag(10, 0x01020304, 0x05060708, 0x090AFFFF), TagField.STATE);
        Desk.due("state(4) after refusals", x.state(4), TagField.UNKNOWN);
        Desk.due("the last byte of 4 is another", x.tag(4, 0x01020305, 0, 0), 4);
        Desk.due("the last byte of 7 is another", x.tag(7, 0x01020304, 0x05060600, 0), 5);
        Desk.due("the last byte of 10 is another", x.tag(10, 0x01020304, 0x05060708, 0x090B0000), 6);
        Desk.due("the first byte of 10 is another", x.tag(10, 0x02020304, 0x05060708, 0x090A0000), 7);
        Desk.due("4 zeros", x.tag(4, 0, 0, 0), 8);
        Desk.due("7 zeros are another number", x.tag(7, 0, 0, 0), 9);
        Desk.due("10 zeros are another number", x.tag(10, 0, 0, 0), 10);
    }

    private static void sixteenAtMost() {
        TagField x = new TagField();
        for (int i = 1; i <= 16; i++) {
            Desk.due("tag " + i, x.tag(4, i, 0, 0), i);
        }
        Desk.due("one more", x.tag(4, 17, 0, 0), TagField.ROOM);
        Desk.due("STATE before ROOM (136)", x.tag(4, 0x88000000, 0, 0), TagField.STATE);
        Desk.due("STATE before ROOM (taken)", x.tag(4, 16, 0, 0), TagField.STATE);
        Desk.due("OUTSIDE before ROOM", x.tag(8, 17, 0, 0), TagField.OUTSIDE);
        Desk.due("state(17)", x.state(17), TagField.UNKNOWN);
        Desk.due("state(16)", x.state(16), 1);
        Desk.due("round() over sixteen", x.round(), 16);
    }

    private static void fieldMayBeOff() {
        TagField x = new TagField();
        x.field(false);
        Desk.due("tag() while the field is off", x.tag(4, 1, 0, 0), 1);
        Desk.due("its state", x.state(1), 0);
        Desk.due("out(1, false): it is in the field", x.out(1, false), 0);
        x.field(true);
        Desk.due("its state when the field is on", x.state(1), 1);
    }
}
