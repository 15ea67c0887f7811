/** The terms' STATES: the table, row by row, and its sentences. */
public final class TableTest {
    /** The frames of the table, and the states that each leads to from those of Way.STATES. */
    private static final Object[][] TABLE = {
        //                 1  2   12  22  3  4  5   15  25  6  7
        {"REQUEST", new int[] {2, 1, 1, 1, 1, 4, 4, 4, 4, 4, 7}},
        {"WAKE", new int[] {2, 1, 1, 1, 1, 5, 4, 4, 4, 4, 7}},
        {"SEARCH 1", new int[] {1, 2, 1, 1, 1, 4, 5, 4, 4, 4, 7}},
        {"SEARCH 2", new int[] {1, 1, 12, 1, 1, 4, 4, 15, 4, 4, 7}},
        {"SEARCH 3", new int[] {1, 1, 1, 22, 1, 4, 4, 4, 25, 4, 7}},
        {"SEARCH 1 another", new int[] {1, 2, 1, 1, 1, 4, 5, 4, 4, 4, 7}},
        {"SEARCH 2 another", new int[] {1, 1, 12, 1, 1, 4, 4, 15, 4, 4, 7}},
        {"SEARCH 3 another", new int[] {1, 1, 1, 22, 1, 4, 4, 4, 25, 4, 7}},
        {"CHOOSE 1", new int[] {1, 12, 1, 1, 1, 4, 15, 4, 4, 4, 7}},
        {"CHOOSE 2", new int[] {1, 1, 22, 1, 1, 4, 4, 25, 4, 4, 7}},
        {"CHOOSE 3", new int[] {1, 1, 1, 3, 1, 4, 4, 4, 6, 4, 7}},
        {"CHOOSE 1 another", new int[] {1, 1, 1, 1, 1, 4, 4, 4, 4, 4, 7}},
        {"CHOOSE 2 another", new int[] {1, 1, 1, 1, 1, 4, 4, 4, 4, 4, 7}},
        {"CHOOSE 3 another", new int[] {1, 1, 1, 1, 1, 4, 4, 4, 4, 4, 7}},
        {"HALT", new int[] {1, 1, 1, 1, 4, 4, 4, 4, 4, 4, 7}},
        {"ACTIVATE", new int[] {1, 1, 1, 1, 7, 4, 4, 4, 4, 7, 7}},
        {"RELEASE", new int[] {1, 1, 1, 1, 1, 4, 4, 4, 4, 4, 4}},
        {"BAD", new int[] {1, 1, 1, 1, 1, 4, 4, 4, 4, 4, 7}},
        {"NOTHING", new int[] {1, 1, 1, 1, 1, 4, 4, 4, 4, 4, 7}},
    };

    private static final String A = Desk.octets(0x84, 0);
    private static final String B_MORE = Desk.octets(0x04, 0xDA, 0x17);
    private static final String B_LAST = Desk.octets(0x20, 0xFC, 0x70);
    private static final String D = Desk.octets(0xC2, 0xE0, 0xB4);

    public static void main(String[] args) {
        everyFrameInEveryState();
        idleIsCalledByBoth();
        haltedIsWokenOnly();
        staysReadyWhetherTheyAreOrNot();
        chosenAtEachLevel();
        justItsFiveBytes();
        anotherLevel();
        haltAndActivate();
        release();
        backFromWhereItCame();
        Desk.end();
    }

    private static void everyFrameInEveryState() {
        Desk.sentence("Terms", "All else: READY and ACTIVE go BACK (also with another level, or with other five bytes),"
                + " and nothing happens in IDLE, HALTED, PROTOCOL; no answer.");
        for (Object[] row : TABLE) {
            for (int i = 0; i < Way.STATES.length; i++) {
                fromState(Way.STATES[i], (String) row[0], ((int[]) row[1])[i]);
            }
        }
    }

    private static void fromState(int state, String frame, int next) {
        Desk desk = new Desk();
        Way.bringTo(desk, state);
        int length = sendNamed(desk, frame);
        String where = frame + " in state " + state;
        Desk.due(where + ": answer", desk.answer(), dueAnswer(state, frame, next));
        Desk.due(where + ": how many bits", length, desk.answer().length());
        Desk.due(where + ": state", desk.field.state(1), next);
    }

    private static int sendNamed(Desk desk, String frame) {
        String[] words = frame.split(" ");
        int level = words.length > 1 ? Integer.parseInt(words[1]) : 1;
        int[] five = Way.SHOWN[level - 1].clone();
        if (words.length > 2) {
            five[3] ^= 1;
            five[4] ^= 1;
        }
        return switch (words[0]) {
            case "REQUEST" -> desk.request();
            case "WAKE" -> desk.wake();
            case "SEARCH" -> desk.search(level, five[0], five[1], five[2], five[3]);
            case "CHOOSE" -> desk.choose(level, five);
            case "HALT" -> desk.halt();
            case "ACTIVATE" -> desk.activate(0x51);
            case "RELEASE" -> desk.release();
            case "BAD" -> desk.checked(0x51, 0);
            default -> desk.field.go();
        };
    }

    /** Only a frame that the state waits for is answered, and HALT never is. */
    private static String dueAnswer(int state, String frame, int next) {
        boolean called = (state == 1 || state == 4) && next != state;
        boolean searched = frame.startsWith("SEARCH") && !frame.endsWith("another") && state == next;
        if (called) {
            return A;
        }
        if (searched && state % 10 != 1 && state != 4 && state != 7) {
            return Desk.octets(Way.SHOWN[state / 10][4]);
        }
        if (frame.startsWith("CHOOSE") && (next > 10 || next == 3 || next == 6)) {
            return next > 10 ? B_MORE : B_LAST;
        }
        if (frame.equals("ACTIVATE") && next == 7 && state != 7) {
            return Model.checkedOctets(3, 2, 0x51);
        }
        return frame.equals("RELEASE") && state == 7 ? D : "";
    }

    private static void idleIsCalledByBoth() {
        Desk.sentence("Terms", "IDLE: REQUEST, WAKE: READY at level 1, with ANSWER A.");
        for (int v : new int[] {Desk.REQUEST, Desk.WAKE}) {
            Desk desk = new Desk();
            Way.bringTo(desk, 1);
            Desk.due("a short frame of " + v, desk.brief(v), 18);
            Desk.due("its answer", desk.answer(), A);
            Desk.due("READY, not woken", desk.field.state(1), 2);
        }
        Desk desk = new Desk();
        Way.bringTo(desk, 22);
        desk.field.go();
        desk.request();
        Desk.due("level 1 after it was at level 3", desk.field.state(1), 2);
    }

    private static void haltedIsWokenOnly() {
        Desk.sentence("Terms", "HALTED: WAKE: 5 at level 1, with answer A.");
        Desk desk = new Desk();
        Way.bringTo(desk, 4);
        Desk.due("REQUEST", desk.request(), 0);
        Desk.due("still HALTED", desk.field.state(1), 4);
        Desk.due("WAKE", desk.wake(), 18);
        Desk.due("its answer", desk.answer(), A);
        Desk.due("woken", desk.field.state(1), 5);
        Desk deep = new Desk();
        Way.bringTo(deep, 25);
        deep.field.go();
        deep.wake();
        Desk.due("level 1 after it was at level 3", deep.field.state(1), 5);
    }

    private static void staysReadyWhetherTheyAreOrNot() {
        Desk.sentence("Terms", "it stays READY whether they are or not");
        for (int state : new int[] {2, 12, 22, 5, 15, 25}) {
            int[] five = Way.SHOWN[state / 10];
            for (int bit = 0; bit < 32; bit++) {
                Desk desk = new Desk();
                Way.bringTo(desk, state);
                int[] told = {five[0], five[1], five[2], five[3]};
                Desk.due("SEARCH with its bits", desk.search(Way.level(state), told), 9);
                told[bit / 8] ^= 1 << (bit % 8);
                Desk.due("SEARCH, bit " + bit + " is another", desk.search(Way.level(state), told), 0);
                Desk.due("it stays in " + state, desk.field.state(1), state);
                Desk.due("SEARCH once more", desk.search(Way.level(state)), 45);
            }
        }
    }

    private static void chosenAtEachLevel() {
        Desk.sentence("Terms", "at its last level it is ACTIVE (3, 6), otherwise READY at the next one");
        int[][] ways = {{2, 3}, {2, 12, 3}, {2, 12, 22, 3}};
        for (int levels = 1; levels <= 3; levels++) {
            for (int woken = 0; woken <= 3; woken += 3) {
                Desk desk = new Desk();
                desk.field.tag(1 + 3 * levels, 0x01020304, 0x05060708, 0x090A0000);
                if (woken > 0) {
                    desk.field.round();
                }
                desk.wake();
                for (int level = 1; level <= levels; level++) {
                    Desk.due("level " + level, desk.field.state(1), ways[levels - 1][level - 1] + woken);
                    desk.choose(level, shown(level, levels));
                }
                Desk.due("ACTIVE", desk.field.state(1), 3 + woken);
            }
        }
    }

    /** What the number 1, 2, 3, .. shows at a level of so many. */
    private static int[] shown(int level, int levels) {
        int first = 3 * level - 2;
        return level < levels
                ? Desk.five(136, first, first + 1, first + 2)
                : Desk.five(first, first + 1, first + 2, first + 3);
    }

    private static void justItsFiveBytes() {
        Desk.sentence("Terms", "with just its five bytes it answers B");
        for (int state : new int[] {2, 12, 22, 5, 15, 25}) {
            for (int bit = 0; bit < 40; bit++) {
                Desk desk = new Desk();
                Way.bringTo(desk, state);
                int[] five = Way.SHOWN[state / 10].clone();
                five[bit / 8] ^= 1 << (bit % 8);
                Desk.due("CHOOSE, bit " + bit + " another", desk.choose(Way.level(state), five), 0);
                Desk.due("its state", desk.field.state(1), Way.back(state));
            }
        }
    }

    private static void anotherLevel() {
        Desk.sentence("Terms", "(also with another level, or with other five bytes)");
        for (int state : new int[] {2, 12, 22, 5, 15, 25}) {
            for (int level = 1; level <= 3; level++) {
                if (level != Way.level(state)) {
                    Desk desk = new Desk();
                    Way.bringTo(desk, state);
                    Desk.due("CHOOSE " + level + " in " + state, desk.choose(level, Way.SHOWN[state / 10]), 0);
                    Desk.due("its state", desk.field.state(1), Way.back(state));
                    Desk other = new Desk();
                    Way.bringTo(other, state);
                    Desk.due("SEARCH " + level + " in " + state, other.search(level), 0);
                    Desk.due("its state", other.field.state(1), Way.back(state));
                }
            }
        }
    }

    private static void haltAndActivate() {
        Desk.sentence("Terms", "ACTIVE (3, 6): HALT: HALTED, no answer; ACTIVATE: PROTOCOL, with answer C.");
        for (int state : new int[] {3, 6}) {
            Desk halted = new Desk();
            Way.bringTo(halted, state);
            Desk.due("HALT in " + state, halted.halt(), 0);
            Desk.due("its state", halted.field.state(1), 4);
            Desk.due("REQUEST: it is HALTED", halted.request(), 0);
            Desk active = new Desk();
            Way.bringTo(active, state);
            Desk.due("ACTIVATE in " + state, active.activate(7), 45);
            Desk.due("its state", active.field.state(1), 7);
            Desk.due("ACTIVATE in PROTOCOL", active.activate(7), 0);
            Desk.due("its state", active.field.state(1), 7);
        }
    }

    private static void release() {
        Desk.sentence("Terms", "PROTOCOL: RELEASE: HALTED, with answer D.");
        Desk desk = new Desk();
        Way.bringTo(desk, 7);
        Desk.due("RELEASE", desk.release(), 27);
        Desk.due("its answer", desk.answer(), D);
        Desk.due("its state", desk.field.state(1), 4);
        Desk.due("RELEASE in HALTED", desk.release(), 0);
        Desk.due("its state", desk.field.state(1), 4);
    }

    private static void backFromWhereItCame() {
        Desk.sentence("Terms", "BACK is IDLE from 2 and 3, HALTED from 5 and 6.");
        int[] states = {2, 12, 22, 3, 5, 15, 25, 6};
        int[] back = {1, 1, 1, 1, 4, 4, 4, 4};
        for (int i = 0; i < states.length; i++) {
            Desk desk = new Desk();
            Way.bringTo(desk, states[i]);
            Desk.due("a bad frame in " + states[i], desk.send("1"), 0);
            Desk.due("BACK", desk.field.state(1), back[i]);
            Desk.due("REQUEST: only IDLE hears it", desk.request(), back[i] == 1 ? 18 : 0);
        }
    }
}
