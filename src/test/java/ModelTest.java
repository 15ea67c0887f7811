import java.util.Random;

/** All promises: long runs of mixed calls, each answer compared with the model's. */
public final class ModelTest {
    private static final int RUNS = 3000;
    private static final int CALLS = 380;

    private final Random random;
    private final int run;
    private final TagField field = new TagField();
    private final Model model = new Model();
    private final int[][] numbers = new int[16][];
    private int tags = 0;
    private int calls = 0;

    private ModelTest(int run) {
        this.run = run;
        random = new Random(run);
    }

    public static void main(String[] args) {
        for (int run = 0; run < RUNS; run++) {
            ModelTest test = new ModelTest(run);
            while (test.calls < CALLS) {
                test.step();
            }
        }
        Desk.end();
    }

    private void due(String call, int got, int want) {
        calls++;
        Desk.due("run " + run + ", call " + calls + ": " + call, got, want);
    }

    private void step() {
        switch (random.nextInt(12)) {
            case 0 -> bring();
            case 1 -> frame();
            case 2 -> move();
            case 3 -> type();
            case 4 -> look();
            case 5 -> round();
            default -> walk();
        }
    }

    private void bring() {
        int size = random.nextInt(20) == 0 ? random.nextInt(12) : new int[] {4, 7, 10}[random.nextInt(3)];
        int a = number();
        int b = number();
        int c = number();
        int got = field.tag(size, a, b, c);
        due("tag(" + size + ", " + a + ", " + b + ", " + c + ")", got, model.tag(size, a, b, c));
        if (got > 0) {
            int[] words = {a, b, c};
            int[] bytes = new int[size];
            for (int i = 0; i < size; i++) {
                bytes[i] = words[i / 4] >>> (24 - 8 * (i % 4)) & 255;
            }
            numbers[got - 1] = bytes;
            tags = got;
        }
    }

    /** Few values, so that numbers share their beginnings. */
    private int number() {
        int v = 0;
        for (int i = 0; i < 4; i++) {
            int b = random.nextInt(4) == 0 ? random.nextInt(256) : new int[] {1, 2, 136, 0x81}[random.nextInt(4)];
            v = v << 8 | b;
        }
        return v;
    }

    private void move() {
        boolean is = random.nextInt(3) == 0;
        if (random.nextInt(4) == 0) {
            due("field(" + !is + ")", field.field(!is), model.field(!is));
        } else {
            int tag = random.nextInt(tags + 2);
            due("out(" + tag + ", " + is + ")", field.out(tag, is), model.out(tag, is));
        }
    }

    private void type() {
        int v = random.nextInt();
        switch (random.nextInt(3)) {
            case 0 -> {
                int n = random.nextInt(35);
                due("bits(" + v + ", " + n + ")", field.bits(v, n), model.bits(v, n));
            }
            case 1 -> due("octet(" + v + ")", field.octet(v), model.octet(v));
            default -> due("check()", field.check(), model.check());
        }
    }

    private void look() {
        int i = random.nextInt(50) - 2;
        due("answer(" + i + ")", field.answer(i), model.answer(i));
        int k = random.nextInt(12) - 1;
        due("found(" + i / 3 + ", " + k + ")", field.found(i / 3, k), model.found(i / 3, k));
        due("frames()", field.frames(), model.frames());
    }

    private void round() {
        if (random.nextInt(4) == 0) {
            due("round()", field.round(), model.round());
            for (int i = 0; i < tags; i++) {
                due("found(" + i + ", 3)", field.found(i, 3), model.found(i, 3));
            }
        }
        lookAtStates();
    }

    private void lookAtStates() {
        for (int tag = 0; tag <= tags + 1; tag++) {
            due("state(" + tag + ")", field.state(tag), model.state(tag));
        }
    }

    private void go() {
        due("go()", field.go(), model.go());
        for (int i = random.nextInt(8); i < 46; i += 1 + random.nextInt(20)) {
            due("answer(" + i + ")", field.answer(i), model.answer(i));
        }
        if (tags > 0) {
            int tag = 1 + random.nextInt(tags);
            due("state(" + tag + ")", field.state(tag), model.state(tag));
        }
    }

    private void octets(int... bytes) {
        for (int b : bytes) {
            due("octet(" + b + ")", field.octet(b), model.octet(b));
        }
    }

    private void checkAndGo() {
        due("check()", field.check(), model.check());
        if (random.nextInt(40) == 0) {
            type();
        }
        go();
    }

    /** One frame, most often a right one. */
    private void frame() {
        int[] five = tags == 0 ? Desk.five(1, 2, 3, 4) : shown(1 + random.nextInt(tags), 1 + random.nextInt(3));
        int level = 1 + random.nextInt(3);
        switch (random.nextInt(7)) {
            case 0 -> brief(random.nextBoolean() ? Desk.REQUEST : random.nextInt(128));
            case 1 -> brief(Desk.WAKE);
            case 2 -> search(level, five);
            case 3 -> choose(level, five);
            case 4 -> command(0x50, random.nextInt(5) / 4);
            case 5 -> command(0xE0, random.nextInt(256));
            default -> command(0xC2);
        }
    }

    /** One tag is led down its levels, and on, with now and then another frame between. */
    private void walk() {
        if (tags == 0) {
            return;
        }
        int tag = 1 + random.nextInt(tags);
        brief(random.nextInt(3) == 0 ? Desk.WAKE : Desk.REQUEST);
        for (int level = 1; level <= (numbers[tag - 1].length - 1) / 3; level++) {
            int[] five = shown(tag, level);
            for (int i = random.nextInt(3); i > 0; i--) {
                search(level, five);
            }
            if (random.nextInt(12) == 0) {
                frame();
            }
            choose(level, five);
        }
        switch (random.nextInt(4)) {
            case 0 -> command(0x50, 0);
            case 1 -> command(0xE0, random.nextInt(256));
            case 2 -> command(0xC2);
            default -> { }
        }
    }

    private int[] shown(int tag, int level) {
        int[] u = numbers[tag - 1];
        int last = (u.length - 1) / 3;
        int from = 3 * (Math.min(level, last) - 1);
        return level >= last
                ? Desk.five(u[from], u[from + 1], u[from + 2], u[from + 3])
                : Desk.five(136, u[from], u[from + 1], u[from + 2]);
    }

    private void brief(int v) {
        due("bits(" + v + ", 7)", field.bits(v, 7), model.bits(v, 7));
        go();
    }

    private void search(int level, int[] five) {
        int told = random.nextInt(40);
        int v = 0x20 + 16 * (told / 8) + told % 8;
        octets(0x91 + 2 * level, random.nextInt(30) == 0 ? v ^ 1 << random.nextInt(8) : v);
        for (int i = 0; i < told / 8; i++) {
            octets(five[i]);
        }
        if (told % 8 > 0) {
            int over = random.nextInt(10) == 0 ? random.nextInt(256) : five[told / 8];
            due("bits(" + over + ", " + told % 8 + ")", field.bits(over, told % 8), model.bits(over, told % 8));
        }
        go();
    }

    private void choose(int level, int[] five) {
        int[] sent = five.clone();
        if (random.nextInt(15) == 0) {
            sent[random.nextInt(5)] ^= 1 << random.nextInt(8);
        }
        octets(0x91 + 2 * level, 0x70);
        octets(sent);
        checkAndGo();
    }

    private void command(int... bytes) {
        octets(bytes);
        checkAndGo();
    }
}
