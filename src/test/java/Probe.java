import java.util.ArrayList;
import java.util.List;
import java.util.function.Supplier;

/** Goes on with a net, as long as its calls reach, and writes down all that it answers. */
final class Probe {
    static final int WAYS = 4;
    private final Net net;
    private final List<String> answers = new ArrayList<>();
    private int callsLeft;

    private Probe(Net net, int calls) {
        this.net = net;
        this.callsLeft = calls;
    }

    static List<String> go(int way, Net net, int calls) {
        Probe probe = new Probe(net, calls);
        switch (way) {
            case 0 -> probe.askAll();
            case 1 -> probe.readTheText();
            case 2 -> probe.fillTheTables();
            default -> probe.goOn();
        }
        return probe.answers;
    }

    static String answer(Supplier<Object> call) {
        try {
            return String.valueOf(call.get());
        } catch (RuntimeException e) {
            return "throws " + e.getClass().getSimpleName();
        }
    }

    private void note(String call, Supplier<Object> run) {
        if (callsLeft > 0) {
            callsLeft--;
            answers.add(call + " answered " + answer(run));
        }
    }

    private void note(String call, Runnable run) {
        note(call, () -> {
            run.run();
            return "nothing";
        });
    }

    private void count(int s, int what) {
        note("count(" + s + ", " + what + ")", () -> net.count(s, what));
    }

    private void channel(int l, int c, int what) {
        note("channel(" + l + ", " + c + ", " + what + ")", () -> net.channel(l, c, what));
    }

    private void read(int s, int k, int i) {
        note("read(" + s + ", " + k + ", " + i + ")", () -> net.read(s, k, i));
    }

    private void file(int s, int length) {
        note("file(" + s + ", " + length + ")", () -> net.file(s, length));
    }

    private void askSwitches() {
        count(-1, 3);
        count(-1, 4);
        for (int s = 0; s < 6; s++) {
            int asked = s;
            note("delivered(" + s + ")", () -> net.delivered(asked));
            for (int what = 0; what < 3; what++) {
                count(s, what);
            }
        }
    }

    private void askAll() {
        askSwitches();
        for (int l = 0; l < 8; l++) {
            for (int n = 0; n < 18; n++) {
                channel(l, n % 2, n / 2);
            }
        }
        for (int n = 0; n < 10; n++) {
            for (int k = 0; k < 8; k++) {
                int message = n;
                int address = k;
                note("arrived(" + n + ", " + k + ")", () -> net.arrived(message, address));
            }
        }
        for (int n = 0; n < 36; n++) {
            read(n % 6, n / 12, n / 6 % 2);
        }
    }

    /** All of it by a desk, where there is one that takes it. */
    private void readTheText() {
        int length = Scenes.TO_ALL.length();
        file(0, length + 1);
        file(0, length);
        callsLeft--;
        int last = net.delivered(0) - 1;
        for (int i = 0; i <= length; i++) {
            read(0, last, i);
        }
        for (int n = 0; n < length; n++) {
            file(1, n);
        }
    }

    private void fillTheTables() {
        for (int s = 0; s < 6; s++) {
            for (char c = 'Z'; c >= 'A'; c--) {
                int there = s;
                int letter = c;
                note("route(" + s + ", " + c + ")", () -> net.route(there, letter, 0, 1, -1, -1));
            }
        }
        for (int n = 0; n < 8 * 36; n++) {
            int l = n / 36;
            int a = 5 - n / 6 % 6;
            int b = 5 - n % 6;
            if (a > b) {
                note("line(" + l + ", " + a + ", " + b + ")", () -> net.line(l, a, b));
            }
        }
        for (int s = 0; s < 6; s++) {
            file(s, Scenes.TO_ALL.length());
        }
        askSwitches();
    }

    private void goOn() {
        for (int s = 0; s < 6; s++) {
            file(s, Scenes.TO_ALL.length());
        }
        sendAndCarry();
        for (int l = 0; l < 8; l++) {
            serve(l, true);
        }
        time(1);
        time(2);
        time(3);
        sendAndCarry();
        for (int l = 0; l < 8; l++) {
            serve(l, false);
            serve(l, true);
        }
        askSwitches();
        for (int n = 0; n < 64; n++) {
            channel(n / 8, n / 4 % 2, 5 + n % 4);
        }
    }

    private void serve(int l, boolean is) {
        note("serve(" + l + ", " + is + ")", () -> net.serve(l, is));
    }

    private void time(int minutes) {
        note("time(" + minutes + ")", () -> net.time(minutes));
    }

    private void sendAndCarry() {
        for (int n = 0; n < 32; n++) {
            int l = n % 16 / 2;
            int c = n % 2;
            note("send(" + l + ", " + c + ")", () -> net.send(l, c));
            note("send(" + l + ", " + c + ")", () -> net.send(l, c));
            note("carry(" + l + ", " + c + ")", () -> net.carry(l, c));
            note("carry(" + l + ", " + c + ")", () -> net.carry(l, c));
        }
    }
}
