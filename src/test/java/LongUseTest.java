/** How long an object is used: its 512th call is answered as its first ones are. */
public final class LongUseTest {
    private static final int CALLS = 512;
    private static final String WORDS = "An object is used for at most 512 calls after it has been made";

    public static void main(String[] args) {
        goAgainAndAgain();
        roundAgainAndAgain();
        refusedAgainAndAgain();
        Desk.end();
    }

    private static void goAgainAndAgain() {
        Desk.sentence("What it is", WORDS);
        TagField x = new TagField();
        for (int call = 1; call < CALLS; call++) {
            x.go();
        }
        Desk.due("frames(), call 512", x.frames(), CALLS - 1);
    }

    /** Rounds over sixteen tags of ten bytes that differ at their last level only. */
    private static void roundAgainAndAgain() {
        Desk.sentence("What it is", WORDS);
        TagField x = new TagField();
        for (int i = 1; i <= 16; i++) {
            x.tag(10, 0x01020304, 0x05060708, i << 16);
        }
        x.round();
        int each = x.frames();
        int rounds = 1;
        for (int call = 18; call + 3 < CALLS; call += 3) {
            x.field(false);
            x.field(true);
            rounds++;
            Desk.due("round() " + rounds, x.round(), 16);
        }
        Desk.due("frames(), the last call", x.frames(), rounds * each);
    }

    private static void refusedAgainAndAgain() {
        Desk.sentence("What it is", WORDS);
        TagField x = new TagField();
        for (int call = 1; call < CALLS - 1; call++) {
            Desk.due("tag(5, ..)", x.tag(5, call, 0, 0), TagField.OUTSIDE);
        }
        Desk.due("tag(4, ..), call 511", x.tag(4, 1, 0, 0), 1);
        Desk.due("state(1), call 512", x.state(1), 1);
    }
}
