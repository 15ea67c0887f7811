import java.util.List;

/** Promise 12: found. */
public final class FoundTest {
    public static void main(String[] args) {
        firstAndLastByte();
        noneBeyondTheNumbers();
        noneBeyondTheBytes();
        ofTheLatestRound();
        latestRoundFoundNone();
        Desk.end();
    }

    /** Three tags; found first is the one of 4 bytes, then those of 7, 10. */
    private static Desk three() {
        Desk desk = new Desk();
        desk.four(0x01020304);
        desk.field.tag(7, 0x01020304, 0x05060700, 0);
        desk.field.tag(10, 0x02020304, 0x05060708, 0x090A0000);
        desk.field.round();
        return desk;
    }

    private static void firstAndLastByte() {
        Desk.sentence("Promise 12", "Byte k of the i-th number (0 the first)");
        Desk desk = three();
        int[] sizes = {4, 7, 10};
        for (int i = 0; i < 3; i++) {
            Desk.due("found(" + i + ", 0)", desk.field.found(i, 0), i == 2 ? 2 : 1);
            int last = sizes[i] - 1;
            Desk.due("found(" + i + ", " + last + ")", desk.field.found(i, last), sizes[i]);
        }
        Desk bytes = new Desk();
        bytes.four(0x00FF80FF);
        bytes.field.round();
        Desk.due("bytes 0 .. 255", bytes.found(0), List.of(0, 255, 128, 255));
    }

    private static void noneBeyondTheNumbers() {
        Desk.sentence("Promise 12", "NONE when there is none such.");
        Desk desk = three();
        for (int i : new int[] {Integer.MIN_VALUE, -1, 3, 16, 39, 40, 41, Integer.MAX_VALUE}) {
            for (int k : new int[] {-1, 0, 9, 10}) {
                Desk.due("found(" + i + ", " + k + ")", desk.field.found(i, k), TagField.NONE);
            }
        }
        Desk.due("found(0, 0), no round yet", new TagField().found(0, 0), TagField.NONE);
        desk.four(0x0B0C0D0E);
        desk.field.round();
        Desk.due("found(0, 0) of a later round of one", desk.field.found(0, 0), 11);
        Desk.due("found(1, 0) of a later round of one", desk.field.found(1, 0), TagField.NONE);
        Desk.due("found(2, 0) of a later round of one", desk.field.found(2, 0), TagField.NONE);
        Desk full = new Desk();
        for (int i = 1; i <= 16; i++) {
            full.four(i);
        }
        full.field.round();
        Desk.due("found(15, 2) of sixteen", full.field.found(15, 2), 0);
        Desk.due("found(16, 2) of sixteen", full.field.found(16, 2), TagField.NONE);
    }

    private static void noneBeyondTheBytes() {
        Desk.sentence("Promise 12", "NONE when there is none such");
        Desk desk = three();
        int[] sizes = {4, 7, 10};
        for (int i = 0; i < 3; i++) {
            for (int k : new int[] {Integer.MIN_VALUE, -1, sizes[i], 10, 11, 40, Integer.MAX_VALUE}) {
                Desk.due("found(" + i + ", " + k + ")", desk.field.found(i, k), TagField.NONE);
            }
        }
    }

    private static void ofTheLatestRound() {
        Desk.sentence("Promise 12", "that the latest round found");
        Desk desk = new Desk();
        desk.field.tag(10, 0x01020304, 0x05060708, 0x090A0000);
        desk.field.round();
        desk.four(0x0B0C0D0E);
        desk.request();
        desk.field.go();
        desk.field.field(false);
        desk.field.field(true);
        Desk.due("found() after other calls", desk.found(0), List.of(1, 2, 3, 4, 5, 6, 7, 8, 9, 10));
        desk.field.out(1, true);
        Desk.due("found() of a tag that is out", desk.found(0), List.of(1, 2, 3, 4, 5, 6, 7, 8, 9, 10));
        Desk.due("round()", desk.field.round(), 1);
        Desk.due("found() of the shorter number", desk.found(0), List.of(11, 12, 13, 14));
        Desk.due("only one", desk.found(1), List.of());
    }

    private static void latestRoundFoundNone() {
        Desk.sentence("Promise 12", "the latest round");
        Desk desk = three();
        Desk.due("round() without answers", desk.field.round(), 0);
        Desk.due("found() of a round that found none", desk.found(0), List.of());
        Desk off = three();
        off.field.field(false);
        off.field.round();
        Desk.due("found() of a round, off", off.found(0), List.of());
    }
}
