import java.util.ArrayList;
import java.util.Arrays;
import java.util.List;

/** The document told a second time, slowly and with rows of bits as texts, to compare with. */
final class Model {
    private static final int[] NO_OCTETS = {};

    private final List<ModelTag> tags = new ArrayList<>();
    private final List<int[]> found = new ArrayList<>();
    private boolean on = true;
    private String typed = "";
    private String answered = "";
    private int frames = 0;

    /** A tag of the model. */
    private static final class ModelTag {
        private final int[] number;
        private boolean out;
        private int state;
        private int level;

        ModelTag(int[] number) {
            this.number = number;
        }

        int lastLevel() {
            return number.length == 4 ? 1 : number.length == 7 ? 2 : 3;
        }

        int[] shows(int at) {
            int from = 3 * (at - 1);
            return at == lastLevel()
                    ? Desk.five(number[from], number[from + 1], number[from + 2], number[from + 3])
                    : Desk.five(136, number[from], number[from + 1], number[from + 2]);
        }
    }

    /** Check bytes bit by bit, as a division: not the way of the document's words. */
    static int[] check(int... bytes) {
        int x = 0x6363;
        for (int b : bytes) {
            x ^= b;
            for (int i = 0; i < 8; i++) {
                x = (x & 1) == 1 ? (x >> 1) ^ 0x8408 : x >> 1;
            }
        }
        return new int[] {x & 255, x >> 8};
    }

    static String checkedOctets(int... bytes) {
        return Desk.octets(bytes) + Desk.octets(check(bytes));
    }

    private static String lowestFirst(int v, int n) {
        StringBuilder text = new StringBuilder();
        for (int i = 0; i < n; i++) {
            text.append((v >>> i) & 1);
        }
        return text.toString();
    }

    /** The bytes of a row of octets with right parities; none if it is not one. */
    private static int[] bytesOf(String row) {
        if (row.length() % 9 != 0) {
            return NO_OCTETS;
        }
        int[] bytes = new int[row.length() / 9];
        for (int i = 0; i < bytes.length; i++) {
            String octet = row.substring(9 * i, 9 * i + 9);
            bytes[i] = Integer.parseInt(new StringBuilder(octet.substring(0, 8)).reverse().toString(), 2);
            if (!octet.equals(Desk.octets(bytes[i]))) {
                return NO_OCTETS;
            }
        }
        return bytes;
    }

    int tag(int size, int a, int b, int c) {
        if (size != 4 && size != 7 && size != 10) {
            return TagField.OUTSIDE;
        }
        int[] words = {a, b, c};
        int[] number = new int[size];
        for (int i = 0; i < size; i++) {
            number[i] = words[i / 4] >>> (24 - 8 * (i % 4)) & 255;
        }
        boolean taken = tags.stream().anyMatch(t -> Arrays.equals(t.number, number));
        if (number[size - 4] == 136 || taken) {
            return TagField.STATE;
        }
        if (tags.size() == 16) {
            return TagField.ROOM;
        }
        ModelTag more = new ModelTag(number);
        more.state = on ? 1 : 0;
        tags.add(more);
        return tags.size();
    }

    int out(int tag, boolean is) {
        if (tag < 1 || tag > tags.size()) {
            return TagField.UNKNOWN;
        }
        ModelTag moved = tags.get(tag - 1);
        if (moved.out == is) {
            return 0;
        }
        moved.out = is;
        moved.state = is || !on ? 0 : 1;
        return 1;
    }

    int field(boolean to) {
        if (on == to) {
            return 0;
        }
        on = to;
        tags.forEach(t -> t.state = on && !t.out ? 1 : 0);
        return 1;
    }

    int bits(int v, int n) {
        if (n < 1 || n > 32) {
            return TagField.OUTSIDE;
        }
        return type(lowestFirst(v, n));
    }

    int octet(int v) {
        return type(Desk.octets(v & 255));
    }

    int check() {
        int[] bytes = bytesOf(typed);
        return bytes.length == 0 ? TagField.STATE : type(Desk.octets(check(bytes)));
    }

    private int type(String more) {
        if (typed.length() + more.length() > 160) {
            return TagField.ROOM;
        }
        typed += more;
        return typed.length();
    }

    int go() {
        answered = send(typed);
        typed = "";
        return answered.length();
    }

    int answer(int i) {
        return i < 0 || i >= answered.length() ? TagField.NONE : answered.charAt(i) - '0';
    }

    int state(int tag) {
        if (tag < 1 || tag > tags.size()) {
            return TagField.UNKNOWN;
        }
        ModelTag asked = tags.get(tag - 1);
        boolean ready = asked.state == 2 || asked.state == 5;
        return asked.state + (ready ? 10 * (asked.level - 1) : 0);
    }

    int found(int i, int k) {
        boolean is = i >= 0 && i < found.size() && k >= 0 && k < found.get(i).length;
        return is ? found.get(i)[k] : TagField.NONE;
    }

    int frames() {
        return frames;
    }

    private String send(String frame) {
        frames++;
        StringBuilder lain = new StringBuilder();
        for (ModelTag tag : tags) {
            String one = hear(tag, frame);
            for (int i = 0; i < one.length(); i++) {
                if (i == lain.length()) {
                    lain.append(one.charAt(i));
                } else if (lain.charAt(i) != one.charAt(i)) {
                    lain.setCharAt(i, '2');
                }
            }
        }
        return lain.toString();
    }

    private static String hear(ModelTag tag, String frame) {
        boolean wake = frame.equals(lowestFirst(0x52, 7));
        boolean request = frame.equals(lowestFirst(0x26, 7));
        int[] bytes = bytesOf(frame);
        boolean woken = tag.state == 5 || tag.state == 6;
        switch (tag.state) {
            case 1, 4 -> {
                if (wake || request && tag.state == 1) {
                    tag.state = tag.state == 1 ? 2 : 5;
                    tag.level = 1;
                    return Desk.octets(new int[] {0x04, 0x44, 0x84}[tag.lastLevel() - 1], 0);
                }
                return "";
            }
            case 2, 5 -> {
                return hearReady(tag, frame);
            }
            case 3, 6 -> {
                boolean two = bytes.length == 4 && frame.equals(checkedOctets(bytes[0], bytes[1]));
                if (two && bytes[0] == 0xE0) {
                    tag.state = 7;
                    return checkedOctets(3, 2, bytes[1]);
                }
                tag.state = woken || two && bytes[0] == 0x50 && bytes[1] == 0 ? 4 : 1;
                return "";
            }
            case 7 -> {
                if (frame.equals(checkedOctets(0xC2))) {
                    tag.state = 4;
                    return frame;
                }
                return "";
            }
            default -> {
                return "";
            }
        }
    }

    private static String hearReady(ModelTag tag, String frame) {
        int[] five = tag.shows(tag.level);
        int first = new int[] {0x93, 0x95, 0x97}[tag.level - 1];
        for (int n = 2; n <= 6; n++) {
            for (int m = 0; m <= 7; m++) {
                boolean head = frame.startsWith(Desk.octets(first, 16 * n + m)) && frame.length() == 9 * n + m;
                if (head && bytesOf(frame.substring(0, 9 * n)).length > 0) {
                    // Whole bytes with right parities are the same bits as octets as without parities.
                    String told = frame.substring(18);
                    String shown = Desk.octets(five);
                    return shown.startsWith(told) ? shown.substring(told.length()) : "";
                }
            }
        }
        if (frame.equals(checkedOctets(first, 0x70, five[0], five[1], five[2], five[3], five[4]))) {
            boolean last = tag.level == tag.lastLevel();
            if (last) {
                tag.state++;
            } else {
                tag.level++;
            }
            return checkedOctets(last ? 0x20 : 4);
        }
        tag.state = tag.state == 5 ? 4 : 1;
        return "";
    }

    int round() {
        found.clear();
        while (found.size() < 40 && !send(lowestFirst(0x26, 7)).isEmpty()) {
            List<Integer> number = new ArrayList<>();
            int level = 0;
            String b;
            do {
                level++;
                int[] five = searched(level);
                int first = 0x91 + 2 * level;
                b = send(checkedOctets(first, 0x70, five[0], five[1], five[2], five[3], five[4]));
                for (int i = b.startsWith("001") ? 1 : 0; i < 4; i++) {
                    number.add(five[i]);
                }
            } while (b.startsWith("001"));
            found.add(number.stream().mapToInt(v -> v).toArray());
            send(checkedOctets(0x50, 0));
        }
        return found.size();
    }

    /** What is known of a level when all collisions are taken as 1: five bytes. */
    private int[] searched(int level) {
        String known = "";
        while (known.length() < 45) {
            int n = 2 + known.length() / 9;
            int m = known.length() % 9;
            String rest = send(Desk.octets(0x91 + 2 * level, 16 * n + m) + known);
            int collision = rest.indexOf('2');
            known += collision < 0 ? rest : rest.substring(0, collision) + "1";
            if (known.length() % 9 == 8) {
                // All eight bits of a byte are known, and so is its parity.
                int from = known.length() - 8;
                known += Desk.octets(Integer.parseInt(
                        new StringBuilder(known.substring(from)).reverse().toString(), 2)).charAt(8);
            }
        }
        return bytesOf(known);
    }
}
