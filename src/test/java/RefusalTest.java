import java.util.function.Consumer;

/**
 * Each call that the document refuses, promise by promise: it throws what the document says, and
 * nothing changes. Likewise the calls that only answer that there is nothing to do.
 */
public final class RefusalTest {
    private static final Check check = new Check();
    private static final int MOST = Integer.MAX_VALUE;
    private static final int LEAST = Integer.MIN_VALUE;
    private static final int[] NO_SWITCH = {-1, 6, LEAST, MOST};
    /** Two that can't be there, two that are not there in the busy net. */
    private static final int[] NO_LINE = {-1, 8, 5, 6, LEAST, MOST};
    private static final int[] NO_CHANNEL = {-1, 2, LEAST, MOST};
    private static final Twins busy = new Twins(check, Scenes::busy);
    private static final Twins fourLines = new Twins(check, Scenes::fourLines);
    private static final Twins sixteen = new Twins(check, Scenes::sixteenEntries);
    private static final Twins twoHundred = new Twins(check, Scenes::twoHundredFiled);
    private static final Twins full = new Twins(check, () -> Scenes.fullWire(3));

    public static void main(String[] args) {
        line();
        lineIsThere();
        lineOfASwitchWithFour();
        routeSwitch();
        routeLength();
        routeLetters();
        routeBytesBehind();
        routePrefixIsThere();
        routeLines();
        routeSeventeenth();
        put();
        file();
        fileWithAFault();
        fileTwoHundredAndFirst();
        channelsOfLines();
        sendNothing();
        carryNothing();
        disturb();
        disturbNothing();
        serve();
        serveAsItIs();
        time();
        delivered();
        read();
        arrived();
        channel();
        count();
        check.end();
    }

    private static void line() {
        for (int l : new int[] {-1, 8, LEAST, MOST}) {
            busy.refuseArgument("line(" + l + ", 1, 3)", net -> net.line(l, 1, 3));
        }
        for (int s : NO_SWITCH) {
            busy.refuseArgument("line(5, " + s + ", 3)", net -> net.line(5, s, 3));
            busy.refuseArgument("line(5, 3, " + s + ")", net -> net.line(5, 3, s));
            busy.refuseArgument("line(5, " + s + ", " + s + ")", net -> net.line(5, s, s));
        }
        busy.refuseArgument("line(5, 3, 3)", net -> net.line(5, 3, 3));
        busy.refuseArgument("line(5, 0, 0)", net -> net.line(5, 0, 0));
    }

    private static void lineIsThere() {
        busy.refuseArgument("a line that is there", net -> net.line(0, 1, 3));
        busy.refuseArgument("a line as it is there", net -> net.line(3, 0, 3));
        busy.refuseArgument("a line that is there, the other way", net -> net.line(1, 2, 1));
        busy.refuseArgument("a line that is there, but cut", net -> net.line(4, 1, 3));
        busy.refuseArgument("the last line, which is there", net -> net.line(7, 1, 3));
    }

    private static void lineOfASwitchWithFour() {
        busy.refuseArgument("a has four", net -> net.line(5, 0, 5));
        busy.refuseArgument("b has four", net -> net.line(5, 5, 0));
        busy.refuseArgument("a has four, one of them is cut", net -> net.line(6, 0, 4));
        for (int s = 1; s < 6; s++) {
            int other = s;
            fourLines.refuseArgument("line(4, 0, " + s + ")", net -> net.line(4, 0, other));
            fourLines.refuseArgument("line(4, " + s + ", 0)", net -> net.line(4, other, 0));
        }
    }

    private static void routeRefused(String why, int s, String prefix, int length, int main, int alternate) {
        String call = "route(" + s + ", " + prefix + ", " + length + ", " + main + ", " + alternate + "), " + why;
        Consumer<Net> run = net ->
            net.route(s, Texts.word(prefix, 0), Texts.word(prefix, 4), length, main, alternate);
        busy.refuseArgument(call, run);
    }

    private static void routeSwitch() {
        for (int s : NO_SWITCH) {
            routeRefused("no such switch", s, "X", 1, -1, -1);
        }
    }

    private static void routeLength() {
        routeRefused("too short", 0, "", 0, -1, -1);
        routeRefused("too short", 0, "X", 0, -1, -1);
        routeRefused("too long", 0, "XXXXXXXX", 9, -1, -1);
        for (int length : new int[] {-1, 16, 32, 33, LEAST, MOST}) {
            routeRefused("no such length", 0, "X", length, -1, -1);
        }
    }

    /** At each of the eight places, the bytes next to the letters and some that are far from them. */
    private static void routeLetters() {
        for (int place = 0; place < 8; place++) {
            for (char none : new char[] {'@', '[', 'a', '0', ' ', '\n', 0, 0x80, 0xC1, 0xFF}) {
                char[] letters = "XXXXXXXX".toCharArray();
                letters[place] = none;
                routeRefused("no letter at place " + place, 0, new String(letters), 8, -1, -1);
            }
        }
    }

    private static void routeBytesBehind() {
        for (int length = 1; length < 8; length++) {
            for (int place = length; place < 8; place++) {
                for (char some : new char[] {'X', 1, 0x80}) {
                    String prefix = "X".repeat(length) + "\0".repeat(place - length) + some;
                    routeRefused("a byte behind the length", 0, prefix, length, -1, -1);
                }
            }
        }
    }

    private static void routePrefixIsThere() {
        routeRefused("it has an entry", 0, "EA", 2, -1, -1);
        routeRefused("it has an entry, for a line", 0, "EB", 2, -1, -1);
        routeRefused("it has an entry, for the desk", 1, "EB", 2, 0, 1);
        routeRefused("it has an entry of one letter", 2, "E", 1, 2, 1);
    }

    private static void routeLines() {
        for (int none : new int[] {-2, 8, 5, 6, 1, 7, LEAST, MOST}) {
            routeRefused("main is no line at this switch", 0, "X", 1, none, -1);
            routeRefused("main is no line at this switch", 0, "X", 1, none, 0);
            routeRefused("alternate is no line at this switch", 0, "X", 1, 0, none);
            routeRefused("alternate of the desk is no line at this switch", 0, "X", 1, -1, none);
            routeRefused("neither is a line at this switch", 0, "X", 1, none, none);
        }
        for (int l : new int[] {0, 2, 3, 4}) {
            routeRefused("main and alternate are one line", 0, "X", 1, l, l);
        }
    }

    private static void routeSeventeenth() {
        sixteen.refuseState("a 17th entry for the desk", net -> Texts.route(net, 0, "EE", -1, -1));
        sixteen.refuseState("a 17th entry for a line", net -> Texts.route(net, 0, "EE", 0, -1));
        sixteen.refuseState("a 17th entry, of one letter", net -> Texts.route(net, 0, "E", 0, -1));
        sixteen.refuseState("a 17th entry, of eight letters", net -> Texts.route(net, 0, "EFAAAAAA", 0, -1));
        sixteen.refuseArgument("a 17th entry that is there", net -> Texts.route(net, 0, "EF", 0, -1));
        sixteen.refuseArgument("a 17th entry without letters", net -> net.route(0, 0, 0, 0, -1, -1));
        sixteen.refuseArgument("a 17th entry with no letter", net -> net.route(0, 'e', 0, 1, -1, -1));
        sixteen.refuseArgument("a 17th entry with bytes behind", net -> net.route(0, 'E', 1, 1, -1, -1));
        sixteen.refuseArgument("a 17th entry with a wrong main", net -> net.route(0, 'E', 0, 1, 1, -1));
        sixteen.refuseArgument("a 17th entry with a wrong alternate", net -> net.route(0, 'E', 0, 1, 0, 1));
        sixteen.refuseArgument("a 17th entry with one line twice", net -> net.route(0, 'E', 0, 1, 0, 0));
    }

    private static void put() {
        for (int i : new int[] {-1, -2, -3, -4, 1600, 1601, LEAST, MOST, MOST - 3}) {
            busy.refuseArgument("put(" + i + ", ..)", net -> net.put(i, 0x58585858));
        }
    }

    private static void file() {
        int length = Scenes.TO_ALL.length();
        for (int s : NO_SWITCH) {
            busy.refuseArgument("file(" + s + ", ..)", net -> net.file(s, length));
            busy.refuseArgument("file(" + s + ", 0)", net -> net.file(s, 0));
        }
        for (int none : new int[] {-1, 1601, LEAST, MOST}) {
            busy.refuseArgument("file(0, " + none + ")", net -> net.file(0, none));
        }
    }

    private static void fileWithAFault() {
        int length = Scenes.TO_ALL.length();
        busy.answer("file(0, 0)", net -> net.file(0, 0), -2);
        for (int n : new int[] {1, 2}) {
            busy.answer("file(0, " + n + ")", net -> net.file(0, n), -1 - 10 * n - 1);
        }
        busy.answer("file of all but the last", net -> net.file(0, length - 1), -1 - 10 * (length - 1) - 6);
        busy.answer("file of one more", net -> net.file(0, length + 1), -1 - 10 * length - 6);
    }

    private static void fileTwoHundredAndFirst() {
        int length = Scenes.TO_ALL.length();
        twoHundred.refuseState("a 201st message", net -> net.file(0, length));
        twoHundred.refuseState("a 201st message elsewhere", net -> net.file(5, length));
        twoHundred.refuseState("a 201st message with a fault", net -> net.file(0, length - 1));
        twoHundred.refuseState("a 201st message without a byte", net -> net.file(0, 0));
        twoHundred.refuseState("a 201st message of 1600 bytes", net -> net.file(0, 1600));
        for (int s : NO_SWITCH) {
            twoHundred.refuseArgument("a 201st message at " + s, net -> net.file(s, length));
        }
        twoHundred.refuseArgument("a 201st message of -1 bytes", net -> net.file(0, -1));
        twoHundred.refuseArgument("a 201st message of 1601 bytes", net -> net.file(0, 1601));
    }

    private static void refuseLineAndChannel(String call, LineCall run) {
        for (int l : NO_LINE) {
            busy.refuseArgument(call + " of line " + l, net -> run.on(net, l, 0));
            busy.refuseArgument(call + " of line " + l + ", channel 1", net -> run.on(net, l, 1));
        }
        for (int c : NO_CHANNEL) {
            busy.refuseArgument(call + " of channel " + c, net -> run.on(net, 0, c));
            busy.refuseArgument(call + " of channel " + c + " of a cut line", net -> run.on(net, 4, c));
        }
        busy.refuseArgument(call + " of line 8, channel 2", net -> run.on(net, 8, 2));
    }

    private interface LineCall {
        void on(Net net, int l, int channel);
    }

    private static void channelsOfLines() {
        refuseLineAndChannel("send", Net::send);
        refuseLineAndChannel("carry", Net::carry);
        for (int how = 0; how < 2; how++) {
            int number = how;
            refuseLineAndChannel("disturb " + how, (net, l, c) -> net.disturb(l, c, number));
        }
        for (int what = 0; what < 9; what++) {
            int number = what;
            refuseLineAndChannel("channel " + what, (net, l, c) -> net.channel(l, c, number));
        }
    }

    private static void sendNothing() {
        busy.answer("send with an empty queue", net -> net.send(3, 1), 0);
        busy.answer("send on a cut line", net -> net.send(4, 0), 0);
        Twins keeps20 = new Twins(check, () -> Scenes.pairWithSent(21, 20));
        keeps20.answer("send with 20 kept", net -> net.send(0, 0), 0);
        Twins cut = new Twins(check, () -> {
            Net net = Scenes.pairWithSent(3, 1);
            net.serve(0, false);
            return net;
        });
        cut.answer("send on a cut line with copies", net -> net.send(0, 0), 0);
    }

    private static void carryNothing() {
        busy.answer("carry of an empty wire", net -> net.carry(7, 0), 0);
        busy.answer("carry on a cut line", net -> net.carry(4, 1), 0);
        new Twins(check, () -> Scenes.pairWith(1)).answer("carry ahead of a send", net -> net.carry(0, 0), 0);
    }

    private static void disturb() {
        for (int how : new int[] {-1, 2, LEAST, MOST}) {
            busy.refuseArgument("disturb(0, 0, " + how + ")", net -> net.disturb(0, 0, how));
            busy.refuseArgument("disturb(3, 1, " + how + ") of nothing", net -> net.disturb(3, 1, how));
            full.refuseArgument("disturb(0, 0, " + how + ") of 200", net -> net.disturb(0, 0, how));
        }
    }

    private static void disturbNothing() {
        for (int how = 0; how < 2; how++) {
            int number = how;
            busy.answer("disturb " + how + " of an empty wire", net -> net.disturb(7, 1, number), false);
            busy.answer("disturb " + how + " on a cut line", net -> net.disturb(4, 0, number), false);
        }
        full.answer("disturb 1 of 200", net -> net.disturb(0, 0, 1), false);
    }

    private static void serve() {
        for (int l : NO_LINE) {
            busy.refuseArgument("serve(" + l + ", true)", net -> net.serve(l, true));
            busy.refuseArgument("serve(" + l + ", false)", net -> net.serve(l, false));
        }
    }

    /** Frames and held copies stay as they are. */
    private static void serveAsItIs() {
        for (int l : new int[] {0, 2, 3, 7}) {
            busy.answer("serve(" + l + ", true), it is in service", net -> net.serve(l, true), false);
        }
        busy.answer("serve(4, false), it is cut", net -> net.serve(4, false), false);
    }

    private static void time() {
        for (int minutes : new int[] {-1, 1001, LEAST, MOST}) {
            busy.refuseArgument("time(" + minutes + ")", net -> net.time(minutes));
        }
        busy.answer("time(0), nothing being due", net -> net.time(0), 0);
    }

    private static void delivered() {
        for (int s : NO_SWITCH) {
            busy.refuseArgument("delivered(" + s + ")", net -> net.delivered(s));
        }
        busy.answer("delivered(0)", net -> net.delivered(0), 2);
    }

    private static void read() {
        for (int s : NO_SWITCH) {
            busy.refuseArgument("read(" + s + ", 0, 0)", net -> net.read(s, 0, 0));
            busy.refuseArgument("read(" + s + ", -1, -1)", net -> net.read(s, -1, -1));
        }
        busy.answer("read(0, 0, 0)", net -> net.read(0, 0, 0), (int) 'G');
        busy.answer("read(0, 2, 0)", net -> net.read(0, 2, 0), -1);
    }

    private static void arrived() {
        for (int m : new int[] {0, 7, -1, LEAST, MOST}) {
            busy.refuseArgument("arrived(" + m + ", 0)", net -> net.arrived(m, 0));
        }
        for (int k : new int[] {-1, 7, 8, 32, LEAST, MOST}) {
            busy.refuseArgument("arrived(1, " + k + ")", net -> net.arrived(1, k));
        }
        busy.answer("arrived(1, 0)", net -> net.arrived(1, 0), true);
        new Twins(check, Net::new).refuseArgument("arrived(1, 0) of a new net", net -> net.arrived(1, 0));
    }

    private static void channel() {
        for (int what : new int[] {-1, 9, 10, LEAST, MOST}) {
            busy.refuseArgument("channel(0, 0, " + what + ")", net -> net.channel(0, 0, what));
            busy.refuseArgument("channel(4, 1, " + what + ")", net -> net.channel(4, 1, what));
        }
    }

    private static void count() {
        int[][] wrong = {{-1, -1}, {-1, 0}, {-1, 1}, {-1, 2}, {-1, 5}, {-1, LEAST}, {-1, MOST}, {-2, 3}, {6, 3},
            {-2, 0}, {6, 0}, {6, 2}, {0, -1}, {0, 3}, {5, 4}, {0, 5}, {0, LEAST}, {0, MOST}, {LEAST, 3}, {MOST, 4}};
        for (int[] call : wrong) {
            busy.refuseArgument("count(" + call[0] + ", " + call[1] + ")", net -> net.count(call[0], call[1]));
        }
    }
}
