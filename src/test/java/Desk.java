import java.util.ArrayList;
import java.util.List;

/** A TagField with frames typed whole, and a count of the answers that are not as due. */
final class Desk {
    static final int REQUEST = 0x26;
    static final int WAKE = 0x52;

    private static int wrong = 0;
    private static String sentence = "";

    final TagField field = new TagField();

    /** The sentence of the document by which the answers from here on are due. */
    static void sentence(String where, String words) {
        sentence = where + ": \"" + words + "\"";
    }

    static void due(String what, Object got, Object want) {
        if (!got.equals(want)) {
            wrong++;
            if (!sentence.isEmpty()) {
                System.out.println("broken is " + sentence);
                sentence = "";
            }
            System.out.println(what + " answered " + got + ", due is " + want);
        }
    }

    /** Ends a test: exit code 1 if an answer was not as due. */
    static void end() {
        if (wrong != 0) {
            System.out.println(wrong + " answers are not as due");
            System.exit(1);
        }
    }

    /** Octets as text, first bit first: the test's own coding, not the program's. */
    static String octets(int... bytes) {
        StringBuilder text = new StringBuilder();
        for (int b : bytes) {
            int ones = 0;
            for (int i = 0; i < 8; i++) {
                int bit = (b >> i) & 1;
                ones += bit;
                text.append(bit);
            }
            text.append(ones % 2 == 0 ? 1 : 0);
        }
        return text.toString();
    }

    /** The five bytes of a level, out of its first four. */
    static int[] five(int a, int b, int c, int d) {
        return new int[] {a, b, c, d, a ^ b ^ c ^ d};
    }

    /** A tag of four bytes, told as one number. */
    int four(int number) {
        return field.tag(4, number, 0, 0);
    }

    int send(String bits) {
        for (int i = 0; i < bits.length(); i++) {
            field.bits(bits.charAt(i) - '0', 1);
        }
        return field.go();
    }

    int brief(int v) {
        field.bits(v, 7);
        return field.go();
    }

    int checked(int... bytes) {
        for (int b : bytes) {
            field.octet(b);
        }
        field.check();
        return field.go();
    }

    int request() {
        return brief(REQUEST);
    }

    int wake() {
        return brief(WAKE);
    }

    int search(int level, int... bytes) {
        return searchBits(level, 0, 0, bytes);
    }

    int searchBits(int level, int over, int count, int... bytes) {
        field.octet(0x91 + 2 * level);
        field.octet(0x20 + 16 * bytes.length + count);
        for (int b : bytes) {
            field.octet(b);
        }
        if (count > 0) {
            field.bits(over, count);
        }
        return field.go();
    }

    int choose(int level, int... five) {
        int[] bytes = new int[2 + five.length];
        bytes[0] = 0x91 + 2 * level;
        bytes[1] = 0x70;
        System.arraycopy(five, 0, bytes, 2, five.length);
        return checked(bytes);
    }

    int halt() {
        return checked(0x50, 0);
    }

    int activate(int b) {
        return checked(0xE0, b);
    }

    int release() {
        return checked(0xC2);
    }

    /** What go answered latest, as text of 0, 1, 2. */
    String answer() {
        StringBuilder text = new StringBuilder();
        for (int i = 0; field.answer(i) != TagField.NONE; i++) {
            text.append(field.answer(i));
        }
        return text.toString();
    }

    /** All states, a text: those of the first tags of so many. */
    String states(int tags) {
        StringBuilder text = new StringBuilder();
        for (int tag = 1; tag <= tags; tag++) {
            text.append(tag > 1 ? " " : "").append(field.state(tag));
        }
        return text.toString();
    }

    /** Types so many bits, all of them 0. */
    void zeros(int count) {
        for (int left = count; left > 0; left -= 32) {
            field.bits(0, Math.min(left, 32));
        }
    }

    /** The i-th number that was found, byte by byte. */
    List<Integer> found(int i) {
        List<Integer> bytes = new ArrayList<>();
        for (int k = 0; field.found(i, k) != TagField.NONE; k++) {
            bytes.add(field.found(i, k));
        }
        return bytes;
    }
}
