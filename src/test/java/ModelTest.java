import java.nio.charset.StandardCharsets;
import java.util.Random;
import java.util.function.Supplier;

/** Random runs of calls, the same ones each time, on a net and on the model of it. */
public final class ModelTest {
    private static final int RUNS = 4000;
    private static final int CALLS_TO_COMPARE = 120;
    private static final int[] STRANGE = {-1, -2, 6, 7, 8, 9, 16, 100, 1001, 1599, 1600, 1601,
        Integer.MAX_VALUE, Integer.MIN_VALUE};
    private static final String[] PRIORITIES = {"SS", "DD", "FF", "GG", "KK"};
    private static final String BYTES = "SNAZ019 \n-a\0\u00ff=";

    private final Check check;
    private final Random random;
    private final int run;
    // Some runs stay on few lines and switches, so that queues, wires and tables fill up.
    private final int linesUsed;
    private final int switchesUsed;
    private final Net net = new Net();
    private final Model model = new Model();
    // What was put, so that a text is written with as few calls as it needs.
    private final byte[] written = new byte[1603];
    private String lastText = "";

    private ModelTest(Check check, int run) {
        this.check = check;
        this.run = run;
        this.random = new Random(run);
        this.linesUsed = 1 + random.nextInt(8);
        this.switchesUsed = 2 + random.nextInt(3);
    }

    public static void main(String[] args) {
        Check check = new Check();
        for (int run = 0; run < RUNS && check.isClean(); run++) {
            new ModelTest(check, run).go();
        }
        check.end();
    }

    private void go() {
        setUp();
        while (net.callsLeft() > CALLS_TO_COMPARE && check.isClean()) {
            anyCall();
        }
        compareAll();
        while (net.callsLeft() > 0 && check.isClean()) {
            ask(any(linesUsed), random.nextInt(2));
        }
    }

    private void same(String call, Supplier<Object> ofNet, Supplier<Object> ofModel) {
        if (net.callsLeft() == 0) {
            return;
        }
        String got = Probe.answer(ofNet);
        String want = Probe.answer(ofModel);
        if (!got.equals(want)) {
            check.tell("run " + run + ": " + call + " answered " + got + ", due is " + want);
        }
    }

    private static Supplier<Object> silent(Runnable call) {
        return () -> {
            call.run();
            return "nothing";
        };
    }

    /** One of the first so many numbers, seldom a strange one. */
    private int any(int bound) {
        return random.nextInt(60) == 0 ? STRANGE[random.nextInt(STRANGE.length)] : random.nextInt(bound);
    }

    private String letters(int length) {
        StringBuilder text = new StringBuilder();
        for (int k = 0; k < length; k++) {
            text.append((char) ('A' + random.nextInt(k == 0 ? 4 : 3)));
        }
        return text.toString();
    }

    private void setUp() {
        for (int l = 0; l < linesUsed; l++) {
            int a = random.nextInt(switchesUsed);
            line(l, a, (a + 1 + random.nextInt(switchesUsed - 1)) % switchesUsed);
        }
        int entries = 5 + random.nextInt(random.nextInt(8) == 0 ? 120 : 30);
        for (int k = 0; k < entries; k++) {
            route();
        }
    }

    private void line(int l, int a, int b) {
        same("line(" + l + ", " + a + ", " + b + ")", silent(() -> net.line(l, a, b)), silent(() -> model.line(l, a, b)));
    }

    private void route() {
        int s = any(random.nextInt(8) == 0 ? 6 : switchesUsed);
        String prefix = letters(1 + random.nextInt(random.nextInt(4) == 0 ? 8 : 2));
        int one = Texts.word(prefix, 0) ^ strangeBit();
        int two = Texts.word(prefix, 4) ^ strangeBit();
        int length = random.nextInt(40) == 0 ? any(10) : prefix.length();
        int main = any(linesUsed + 1) - 1;
        int alternate = any(linesUsed + 1) - 1;
        same("route(" + s + ", " + prefix + ", " + main + ", " + alternate + ")",
                silent(() -> net.route(s, one, two, length, main, alternate)),
                silent(() -> model.route(s, one, two, length, main, alternate)));
    }

    private int strangeBit() {
        return random.nextInt(50) == 0 ? 1 << random.nextInt(32) : 0;
    }

    private void put(int i, int v) {
        same("put(" + i + ", " + v + ")", silent(() -> net.put(i, v)), silent(() -> model.put(i, v)));
        for (int k = 0; k < 4 && i >= 0 && i < 1600; k++) {
            written[i + k] = (byte) (v >>> (8 * k));
        }
    }

    private void write(String text) {
        for (int i = 0; i < text.length() && i < 1600; i += 4) {
            String there = new String(written, i, 4, StandardCharsets.ISO_8859_1);
            if (!there.startsWith(text.substring(i, Math.min(i + 4, text.length())))) {
                put(i, Texts.word(text, i));
            }
        }
    }

    private void file() {
        boolean isNew = lastText.isEmpty() || random.nextInt(3) == 0;
        lastText = isNew ? text() : PRIORITIES[random.nextInt(5)] + lastText.substring(2);
        String text = random.nextInt(4) == 0 ? altered(lastText) : lastText;
        write(text);
        int s = any(switchesUsed);
        int length = random.nextInt(30) == 0 ? any(1601) : text.length();
        int times = random.nextInt(20) == 0 ? 40 : 1;
        for (int n = 0; n < times; n++) {
            same("file(" + s + ", " + length + ") of " + text.replace("\n", "\\n"),
                    () -> net.file(s, length), () -> model.file(s, length));
        }
    }

    private String text() {
        StringBuilder text = new StringBuilder(PRIORITIES[random.nextInt(5)]).append('\n');
        int addresses = random.nextInt(12) == 0 ? 7 + random.nextInt(2) : 1 + random.nextInt(4);
        for (int k = 0; k < addresses; k++) {
            text.append(k == 0 ? "" : " ").append(letters(8));
        }
        text.append(String.format("\n%02d%02d%02d ", part(1, 31), part(0, 23), part(0, 59)));
        text.append(letters(8)).append('\n');
        int lines = random.nextInt(12) == 0 ? 19 + random.nextInt(3) : random.nextInt(3);
        for (int k = 0; k < lines; k++) {
            int signs = random.nextInt(20) == 0 ? 68 + random.nextInt(3) : 1 + random.nextInt(5);
            text.append((random.nextInt(4) == 0 ? "N" : "A.").repeat(70), 0, signs).append('\n');
        }
        return text.append("NNNN").toString();
    }

    private int part(int least, int most) {
        int some = random.nextInt(30);
        return some == 0 ? most + 1 : some == 1 ? least : some == 2 ? most : least + random.nextInt(most - least + 1);
    }

    private String altered(String text) {
        StringBuilder altered = new StringBuilder(text);
        int place = random.nextInt(text.length());
        char other = BYTES.charAt(random.nextInt(BYTES.length()));
        switch (random.nextInt(5)) {
            case 0 -> altered.setLength(place);
            case 1 -> altered.deleteCharAt(place);
            case 2 -> altered.insert(place, other);
            case 3 -> altered.append(other);
            default -> altered.setCharAt(place, other);
        }
        return altered.toString();
    }

    private void anyCall() {
        int l = any(linesUsed);
        int c = random.nextInt(60) == 0 ? any(3) : random.nextInt(2);
        int dice = random.nextInt(100);
        if (dice < 12) {
            file();
        } else if (dice < 37) {
            int times = random.nextInt(12) == 0 ? 21 : 1;
            for (int n = 0; n < times; n++) {
                same("send(" + l + ", " + c + ")", () -> net.send(l, c), () -> model.send(l, c));
            }
        } else if (dice < 72) {
            int times = random.nextInt(12) == 0 ? 30 : 1;
            for (int n = 0; n < times; n++) {
                same("carry(" + l + ", " + c + ")", () -> net.carry(l, c), () -> model.carry(l, c));
            }
        } else if (dice < 82) {
            disturb(l, c);
        } else if (dice < 88) {
            boolean is = random.nextInt(3) > 0;
            same("serve(" + l + ", " + is + ")", () -> net.serve(l, is), () -> model.serve(l, is));
        } else if (dice < 94) {
            int minutes = random.nextInt(9) == 0 ? any(1001) : random.nextInt(4);
            same("time(" + minutes + ")", () -> net.time(minutes), () -> model.time(minutes));
        } else if (dice < 95) {
            line(any(8), any(6), any(6));
        } else if (dice < 96) {
            route();
        } else {
            ask(l, c);
        }
    }

    private void disturb(int l, int c) {
        int how = any(2);
        int times = how == 1 && random.nextInt(8) == 0 ? 201 : 1;
        for (int n = 0; n < times; n++) {
            same("disturb(" + l + ", " + c + ", " + how + ")", () -> net.disturb(l, c, how), () -> model.disturb(l, c, how));
        }
    }

    private void ask(int l, int c) {
        int s = any(switchesUsed);
        int k = any(1 + (s >= 0 && s < 6 ? model.delivered(s) : 0));
        int i = any(60);
        same("read(" + s + ", " + k + ", " + i + ")", () -> net.read(s, k, i), () -> model.read(s, k, i));
        int message = any(2 + model.count(-1, 4));
        int address = any(5);
        same("arrived(" + message + ", " + address + ")",
                () -> net.arrived(message, address), () -> model.arrived(message, address));
        int asked = any(9);
        same("channel(" + l + ", " + c + ", " + asked + ")",
                () -> net.channel(l, c, asked), () -> model.channel(l, c, asked));
        int of = any(7) - 1;
        int what = any(6);
        same("count(" + of + ", " + what + ")", () -> net.count(of, what), () -> model.count(of, what));
        same("delivered(" + of + ")", () -> net.delivered(of), () -> model.delivered(of));
    }

    /** Half of what can be asked, since all of it would take too many of the calls. */
    private void compareAll() {
        for (int l = 0; l < linesUsed; l++) {
            for (int n = 0; n < 18; n++) {
                int number = l;
                int c = n % 2;
                int what = n / 2;
                if (random.nextBoolean()) {
                    same("channel(" + l + ", " + c + ", " + what + ")",
                            () -> net.channel(number, c, what), () -> model.channel(number, c, what));
                }
            }
        }
        for (int s = -1; s < 6; s++) {
            compareSwitch(s);
        }
    }

    private void compareSwitch(int s) {
        for (int w = 0; w < 5; w++) {
            int what = w;
            if (random.nextBoolean()) {
                same("count(" + s + ", " + what + ")", () -> net.count(s, what), () -> model.count(s, what));
            }
        }
        same("delivered(" + s + ")", () -> net.delivered(s), () -> model.delivered(s));
    }
}
