/** The way of a tag of ten bytes, the first of its desk, to each of its states. */
final class Way {
    static final int[] STATES = {1, 2, 12, 22, 3, 4, 5, 15, 25, 6, 7};

    /** What the tag shows at its three levels. */
    static final int[][] SHOWN = {
        Desk.five(0x88, 0x11, 0x22, 0x33), Desk.five(0x88, 0x44, 0x55, 0x66), Desk.five(0x77, 0x99, 0xAA, 0xBB),
    };

    private Way() {
    }

    static int bring(Desk desk) {
        return desk.field.tag(10, 0x11223344, 0x55667799, 0xAABB0000);
    }

    static void bringTo(Desk desk, int state) {
        bring(desk);
        lead(desk, state);
    }

    /** Leads the tag on from IDLE; other tags in the field hear all of it, too. */
    static void lead(Desk desk, int state) {
        switch (state) {
            case 1 -> { }
            case 2, 12, 22, 3, 7 -> goDown(desk, Desk.REQUEST, state);
            default -> {
                goDown(desk, Desk.REQUEST, 3);
                desk.halt();
                if (state != 4) {
                    goDown(desk, Desk.WAKE, state);
                }
            }
        }
        Desk.due("on the way to state " + state, desk.field.state(1), state);
    }

    /** The level at which a tag in a state is READY. */
    static int level(int state) {
        return 1 + state / 10;
    }

    /** Where a tag is after a frame that is BAD. */
    static int back(int state) {
        return switch (state % 10) {
            case 2, 3 -> 1;
            case 5, 6 -> 4;
            default -> state;
        };
    }

    private static void goDown(Desk desk, int first, int state) {
        desk.brief(first);
        int chosen = switch (state) {
            case 2, 5 -> 0;
            case 12, 15 -> 1;
            case 22, 25 -> 2;
            default -> 3;
        };
        for (int level = 1; level <= chosen; level++) {
            desk.choose(level, SHOWN[level - 1]);
        }
        if (state == 7) {
            desk.activate(0x80);
        }
    }
}
