/** Promises 1 to 3 and 6 to 15, one method for each, in runs as a user would make them. */
public final class NetTest {
    private static final Check check = new Check();
    private static final int MOST = Integer.MAX_VALUE;
    private static final int LEAST = Integer.MIN_VALUE;

    public static void main(String[] args) {
        newObject();
        line();
        route();
        routeRefuses();
        longestPrefix();
        partsOfACopy();
        send();
        sendByPriority();
        carry();
        earlyAndRequests();
        again();
        disturb();
        serve();
        heldAgain();
        heldNotBackByItsLine();
        time();
        timeOfACutLine();
        delivered();
        read();
        arrived();
        channel();
        count();
        check.end();
    }

    private static void dueChannel(String when, Net net, int l, int c, int... wants) {
        for (int what = 0; what < wants.length; what++) {
            check.due(when + ": channel(" + l + ", " + c + ", " + what + ")", net.channel(l, c, what), wants[what]);
        }
    }

    private static void newObject() {
        Net net = new Net();
        for (int l = 0; l < 8; l++) {
            int number = l;
            check.refusesArgument("a new net: channel of line " + l, () -> net.channel(number, 0, 0));
        }
        for (int s = 0; s < 6; s++) {
            check.due("a new net: delivered", net.delivered(s), 0);
            for (int what = 0; what < 3; what++) {
                check.due("a new net: count(" + s + ", " + what + ")", net.count(s, what), 0);
            }
        }
        check.due("a new net: minute", net.count(-1, 3), 0);
        check.due("a new net: filed", net.count(-1, 4), 0);
        check.due("a new net: time(1000)", net.time(1000), 0);
        check.due("a new net: a text of nothing", new Net().file(0, 0), -2);
        Texts.file(net, 0, Scenes.TO_B);
        check.due("no entries: unknown", net.count(0, 0), 1);
        check.due("another net has its own state", new Net().count(-1, 3), 0);
    }

    private static void line() {
        Net net = new Net();
        check.refusesArgument("line(-1, 0, 1)", () -> net.line(-1, 0, 1));
        check.refusesArgument("line(8, 0, 1)", () -> net.line(8, 0, 1));
        check.refusesArgument("line(0, -1, 1)", () -> net.line(0, -1, 1));
        check.refusesArgument("line(0, 6, 1)", () -> net.line(0, 6, 1));
        check.refusesArgument("line(0, 1, -1)", () -> net.line(0, 1, -1));
        check.refusesArgument("line(0, 1, 6)", () -> net.line(0, 1, 6));
        check.refusesArgument("line(0, 2, 2)", () -> net.line(0, 2, 2));
        check.refusesArgument("line(least, 0, 1)", () -> net.line(LEAST, 0, 1));
        check.refusesArgument("line(most, 0, 1)", () -> net.line(MOST, 0, 1));
        net.line(7, 5, 0);
        dueChannel("a new line", net, 7, 0, 0, 0, 0, 0, 0, 0, 0, 1, 1);
        dueChannel("a new line", net, 7, 1, 0, 0, 0, 0, 0, 0, 0, 1, 1);
        check.due("a new line is in service", net.serve(7, true), false);
        check.refusesArgument("line 7 again", () -> net.line(7, 1, 2));
        net.line(0, 0, 5);
        net.line(1, 1, 0);
        net.line(2, 0, 1);
        check.refusesArgument("a fifth line of a", () -> net.line(3, 0, 2));
        check.refusesArgument("a fifth line of b", () -> net.line(3, 2, 0));
        net.line(3, 1, 2);
        net.line(4, 5, 2);
        net.line(5, 2, 1);
        check.refusesArgument("a fifth line of 1", () -> net.line(6, 1, 3));
        net.line(6, 2, 3);
        directions();
    }

    private static void directions() {
        Net net = new Net();
        net.line(3, 4, 2);
        Texts.route(net, 2, "EA", 3, -1);
        Texts.route(net, 4, "EA", -1, -1);
        Texts.route(net, 4, "EB", 3, -1);
        Texts.route(net, 2, "EB", -1, -1);
        Texts.file(net, 2, Texts.simple("SS", "EAAAAAAA"));
        check.due("from b: channel 1", net.channel(3, 1, 0), 1);
        check.due("from b: channel 0", net.channel(3, 0, 0), 0);
        Texts.file(net, 4, Texts.simple("SS", "EBAAAAAA"));
        check.due("from a: channel 0", net.channel(3, 0, 0), 1);
        net.send(3, 1);
        check.due("carry(3, 1)", net.carry(3, 1), 1);
        check.due("at a", net.delivered(4), 1);
        net.send(3, 0);
        check.due("carry of the acknowledgement", net.carry(3, 0), 4);
        check.due("carry of the message", net.carry(3, 0), 1);
        check.due("at b", net.delivered(2), 1);
    }

    private static void route() {
        Net net = new Net();
        net.line(0, 0, 1);
        net.line(1, 0, 2);
        Texts.route(net, 0, "A", -1, -1);
        Texts.route(net, 0, "ABCDEFGH", 0, 1);
        Texts.route(net, 0, "ABCDE", 1, 0);
        Texts.route(net, 0, "ABCD", 1, -1);
        Texts.route(net, 0, "Z", -1, 0);
        Texts.route(net, 1, "A", 0, -1);
        net.serve(0, false);
        Texts.route(net, 0, "Y", 0, -1);
        check.refusesArgument("a prefix again, with another line", () -> Texts.route(net, 0, "ABCDE", 0, -1));
        Texts.file(net, 0, Texts.simple("SS", "ZAAAAAAA"));
        check.due("the desk's alternate is never used", net.arrived(1, 0), true);
    }

    private static void routeRefuses() {
        Net net = new Net();
        net.line(0, 0, 1);
        net.line(1, 1, 2);
        int a = 'A';
        check.refusesArgument("switch -1", () -> net.route(-1, a, 0, 1, -1, -1));
        check.refusesArgument("switch 6", () -> net.route(6, a, 0, 1, -1, -1));
        check.refusesArgument("length 0", () -> net.route(0, 0, 0, 0, -1, -1));
        check.refusesArgument("length 0 with a letter", () -> net.route(0, a, 0, 0, -1, -1));
        check.refusesArgument("length 9", () -> net.route(0, 0x41414141, 0x41414141, 9, -1, -1));
        check.refusesArgument("length -1", () -> net.route(0, a, 0, -1, -1, -1));
        check.refusesArgument("length least", () -> net.route(0, a, 0, LEAST, -1, -1));
        check.refusesArgument("length most", () -> net.route(0, a, 0, MOST, -1, -1));
        check.refusesArgument("a small letter", () -> Texts.route(net, 0, "Aa", -1, -1));
        check.refusesArgument("@", () -> Texts.route(net, 0, "A@", -1, -1));
        check.refusesArgument("[", () -> Texts.route(net, 0, "ABCDEFG[", -1, -1));
        check.refusesArgument("a high byte", () -> net.route(0, -1, -1, 8, -1, -1));
        check.refusesArgument("a letter is 0", () -> net.route(0, 0x410041, 0, 3, -1, -1));
        check.refusesArgument("a byte behind the length", () -> net.route(0, 0x4141, 0, 1, -1, -1));
        check.refusesArgument("the fourth byte behind", () -> net.route(0, 0x80000041, 0, 1, -1, -1));
        check.refusesArgument("a byte of two behind", () -> net.route(0, 0x41414141, 0x41, 4, -1, -1));
        check.refusesArgument("the last byte behind", () -> net.route(0, 0x41414141, 0xC1414141, 7, -1, -1));
        check.refusesArgument("main not at this switch", () -> net.route(0, a, 0, 1, 1, -1));
        check.refusesArgument("main is not there", () -> net.route(0, a, 0, 1, 2, -1));
        check.refusesArgument("main 8", () -> net.route(0, a, 0, 1, 8, -1));
        check.refusesArgument("main -2", () -> net.route(0, a, 0, 1, -2, -1));
        check.refusesArgument("main most", () -> net.route(0, a, 0, 1, MOST, -1));
        check.refusesArgument("alternate not at this switch", () -> net.route(0, a, 0, 1, 0, 1));
        check.refusesArgument("alternate not there", () -> net.route(0, a, 0, 1, 0, 7));
        check.refusesArgument("alternate 8", () -> net.route(0, a, 0, 1, 0, 8));
        check.refusesArgument("alternate -2", () -> net.route(0, a, 0, 1, 0, -2));
        check.refusesArgument("alternate not at this switch, desk", () -> net.route(0, a, 0, 1, -1, 1));
        check.refusesArgument("main and alternate are one", () -> net.route(0, a, 0, 1, 0, 0));
        for (int k = 0; k < 16; k++) {
            net.route(0, 'A' + k, 0, 1, -1, -1);
        }
        check.refusesState("a 17th entry", () -> net.route(0, 'Z', 0, 1, -1, -1));
        check.refusesArgument("a 17th entry that is there", () -> net.route(0, 'A', 0, 1, -1, -1));
        check.refusesArgument("a 17th entry with a wrong line", () -> net.route(0, 'Z', 0, 1, 1, -1));
        net.route(1, 'Z', 0, 1, 0, 1);
        Texts.file(net, 0, Texts.simple("SS", "ZAAAAAAA", "PAAAAAAA"));
        check.due("refused entries aren't there", net.count(0, 0), 1);
        check.due("the 16th is there", net.arrived(1, 1), true);
    }

    private static void longestPrefix() {
        Net net = new Net();
        for (int l = 0; l < 3; l++) {
            net.line(l, 0, l + 1);
        }
        Texts.route(net, 0, "ABC", 1, -1);
        Texts.route(net, 0, "A", 0, -1);
        Texts.route(net, 0, "ABCDEFGH", -1, -1);
        Texts.route(net, 0, "ABCDE", 2, -1);
        Texts.file(net, 0, Texts.simple("DD", "AXXXXXXX", "ABXXXXXX", "ABCXXXXX", "ABCDEXXX", "ABCDEFGH", "BAAAAAAA"));
        for (int l = 0; l < 3; l++) {
            check.due("one copy for line " + l, net.channel(l, 0, 1), 1);
        }
        check.due("delivered by eight letters", net.arrived(1, 4), true);
        check.due("unknown", net.count(0, 0), 1);
        Texts.route(net, 1, "A", -1, -1);
        net.send(0, 0);
        net.carry(0, 0);
        boolean[] wants = {true, true, false, false, true, false};
        for (int k = 0; k < wants.length; k++) {
            check.due("arrived(1, " + k + ")", net.arrived(1, k), wants[k]);
        }
    }

    private static void partsOfACopy() {
        Net net = new Net();
        net.line(0, 0, 1);
        net.line(1, 0, 1);
        Texts.route(net, 0, "A", 0, 1);
        Texts.route(net, 0, "B", 1, 0);
        Texts.route(net, 0, "C", 0, -1);
        String text = Texts.simple("KK", "AAAAAAAA", "BAAAAAAA", "CAAAAAAA", "ABAAAAAA");
        Texts.file(net, 0, text);
        check.due("one copy by line 0", net.channel(0, 0, 4), 1);
        check.due("one copy by line 1", net.channel(1, 0, 4), 1);
        net.serve(0, false);
        Texts.file(net, 0, text);
        check.due("none by the cut line", net.channel(0, 0, 4), 1);
        check.due("one by the alternate", net.channel(1, 0, 4), 2);
        check.due("one is held", net.count(0, 2), 1);
        net.serve(1, false);
        Texts.file(net, 0, text);
        check.due("one more is held, with all addresses", net.count(0, 2), 2);
        check.due("queues of cut lines stay", net.channel(1, 0, 4), 2);
    }

    private static void send() {
        Net net = Scenes.pairWith(21);
        check.refusesArgument("send(-1, 0)", () -> net.send(-1, 0));
        check.refusesArgument("send(8, 0)", () -> net.send(8, 0));
        check.refusesArgument("send(1, 0)", () -> net.send(1, 0));
        check.refusesArgument("send(0, -1)", () -> net.send(0, -1));
        check.refusesArgument("send(0, 2)", () -> net.send(0, 2));
        check.due("send without a copy", net.send(0, 1), 0);
        net.serve(0, false);
        check.due("send on a cut line", net.send(0, 0), 0);
        net.serve(0, true);
        for (int k = 1; k <= 20; k++) {
            check.due("send " + k, net.send(0, 0), k);
        }
        check.due("send with 20 kept", net.send(0, 0), 0);
        dueChannel("20 kept", net, 0, 0, 0, 0, 0, 1, 0, 20, 20, 21, 1);
        net.carry(0, 0);
        check.due("send before the acknowledgement is there", net.send(0, 0), 0);
        net.carry(0, 1);
        check.due("send with 19 kept", net.send(0, 0), 21);
        dueChannel("all sent", net, 0, 0, 0, 0, 0, 0, 0, 20, 20, 22, 2);
        check.due("nothing more", net.send(0, 0), 0);
    }

    private static void sendByPriority() {
        Net net = Scenes.pair();
        String[] priorities = {"KK", "GG", "SS", "FF", "DD", "GG", "SS", "KK"};
        for (int k = 0; k < priorities.length; k++) {
            Texts.file(net, 0, Texts.simple(priorities[k], "EBAAAAA" + (char) ('A' + k)));
        }
        dueChannel("queued", net, 0, 0, 2, 1, 1, 2, 2, 0, 0, 1, 1);
        String order = "CGEDBFAH";
        for (int k = 0; k < order.length(); k++) {
            net.send(0, 0);
            net.carry(0, 0);
            check.due("the message sent as " + (k + 1), net.read(1, k, 10), order.charAt(k));
        }
        Net later = Scenes.pairWith(2);
        later.send(0, 0);
        Texts.file(later, 0, Texts.simple("SS", "EBZAAAAA"));
        later.send(0, 0);
        later.carry(0, 0);
        later.carry(0, 0);
        check.due("a higher one passes what is in the queue", later.read(1, 1, 5), 'Z');
    }

    private static void carry() {
        Net net = Scenes.pairWith(3);
        check.refusesArgument("carry(-1, 0)", () -> net.carry(-1, 0));
        check.refusesArgument("carry(8, 0)", () -> net.carry(8, 0));
        check.refusesArgument("carry(7, 0)", () -> net.carry(7, 0));
        check.refusesArgument("carry(0, 2)", () -> net.carry(0, 2));
        check.refusesArgument("carry(0, -1)", () -> net.carry(0, -1));
        check.due("carry of nothing", net.carry(0, 0), 0);
        for (int k = 0; k < 3; k++) {
            net.send(0, 0);
        }
        for (int k = 0; k < 3; k++) {
            check.due("carry takes", net.carry(0, 0), 1);
            check.due("expected", net.channel(0, 0, 8), k + 2);
        }
        check.due("delivered", net.delivered(1), 3);
        check.due("acknowledgements", net.channel(0, 1, 6), 3);
        net.disturb(0, 1, 0);
        check.due("the acknowledgement of 2", net.carry(0, 1), 4);
        check.due("frees 1 and 2", net.channel(0, 0, 5), 1);
        net.disturb(0, 1, 1);
        check.due("the acknowledgement of 3", net.carry(0, 1), 4);
        check.due("frees 3", net.channel(0, 0, 5), 0);
        check.due("the acknowledgement of 3 again", net.carry(0, 1), 4);
        check.due("frees nothing", net.channel(0, 0, 5), 0);
        check.due("serials", net.channel(0, 0, 7), 4);
        twoWays();
    }

    /** Acknowledgements stand on the wire of the other channel, between its own messages. */
    private static void twoWays() {
        Net net = Scenes.pairWith(1);
        Texts.file(net, 1, Texts.simple("SS", "EAAAAAAA"));
        check.due("serials of channel 0", net.send(0, 0), 1);
        check.due("serials of channel 1", net.send(0, 1), 1);
        check.due("the message to 1", net.carry(0, 0), 1);
        check.due("the message to 0", net.carry(0, 1), 1);
        check.due("the acknowledgement from 1", net.carry(0, 1), 4);
        check.due("channel 0 is free", net.channel(0, 0, 5), 0);
        check.due("channel 1 is not", net.channel(0, 1, 5), 1);
        check.due("the acknowledgement from 0", net.carry(0, 0), 4);
        check.due("channel 1 is free too", net.channel(0, 1, 5), 0);
    }

    private static void earlyAndRequests() {
        Net net = Scenes.pairWith(6);
        for (int k = 0; k < 4; k++) {
            net.send(0, 0);
        }
        net.carry(0, 0);
        net.disturb(0, 0, 0);
        check.due("3 is early", net.carry(0, 0), 2);
        check.due("an acknowledgement and a request", net.channel(0, 1, 6), 2);
        check.due("4 is early", net.carry(0, 0), 2);
        check.due("no second request", net.channel(0, 1, 6), 2);
        check.due("nothing of it is delivered", net.delivered(1), 1);
        check.due("acknowledgement", net.carry(0, 1), 4);
        net.disturb(0, 1, 1);
        check.due("request", net.carry(0, 1), 5);
        check.due("2, 3 and 4 are there again", net.channel(0, 0, 6), 3);
        check.due("they stay kept", net.channel(0, 0, 5), 3);
        net.time(2);
        net.disturb(0, 0, 0);
        check.due("3 is early again", net.carry(0, 0), 2);
        check.due("a request was put 2 minutes ago", net.channel(0, 1, 6), 1);
        net.time(1);
        check.due("4 is early again", net.carry(0, 0), 2);
        check.due("a request was put 3 minutes ago", net.channel(0, 1, 6), 2);
        check.due("request", net.carry(0, 1), 5);
        for (int k = 0; k < 3; k++) {
            check.due("taken", net.carry(0, 0), 1);
        }
        check.due("the request that was there twice", net.carry(0, 1), 5);
        check.due("what is not acknowledged is put again", net.channel(0, 0, 6), 3);
        for (int k = 0; k < 3; k++) {
            check.due("acknowledgement", net.carry(0, 1), 4);
            check.due("again", net.carry(0, 0), 3);
        }
        dueChannel("all is acknowledged", net, 0, 0, 0, 0, 0, 2, 0, 0, 0, 5, 5);
        requestsFromTheirSerialOn();
    }

    private static void requestsFromTheirSerialOn() {
        Net net = Scenes.pairWith(4);
        for (int k = 0; k < 4; k++) {
            net.send(0, 0);
        }
        net.carry(0, 0);
        net.carry(0, 0);
        net.disturb(0, 0, 0);
        net.carry(0, 0);
        net.disturb(0, 1, 0);
        net.disturb(0, 1, 0);
        check.due("the request for 3", net.carry(0, 1), 5);
        check.due("3 and 4, not 1 and 2", net.channel(0, 0, 6), 2);
        check.due("1 and 2 are not free by it", net.channel(0, 0, 5), 4);
        check.due("3", net.carry(0, 0), 1);
        check.due("4", net.carry(0, 0), 1);
    }

    private static void again() {
        Net net = Scenes.pairWith(3);
        for (int k = 0; k < 2; k++) {
            net.send(0, 0);
            net.disturb(0, 0, 1);
            net.carry(0, 0);
            check.due("again", net.carry(0, 0), 3);
        }
        check.due("each was acknowledged", net.channel(0, 1, 6), 4);
        check.due("again is not delivered", net.delivered(1), 2);
        check.due("nor double", net.count(1, 1), 0);
        for (int k = 0; k < 4; k++) {
            net.disturb(0, 1, 0);
        }
        check.due("put again", net.time(5), 1);
        check.due("1 is there again", net.carry(0, 0), 3);
        check.due("its acknowledgement", net.carry(0, 1), 4);
        check.due("is of the one ahead of the expected", net.channel(0, 0, 5), 0);
    }

    private static void disturb() {
        Net net = Scenes.pairWith(2);
        check.refusesArgument("disturb(-1, 0, 0)", () -> net.disturb(-1, 0, 0));
        check.refusesArgument("disturb(8, 0, 0)", () -> net.disturb(8, 0, 0));
        check.refusesArgument("disturb(2, 0, 0)", () -> net.disturb(2, 0, 0));
        check.refusesArgument("disturb(0, 2, 0)", () -> net.disturb(0, 2, 0));
        check.refusesArgument("disturb(0, -1, 0)", () -> net.disturb(0, -1, 0));
        check.refusesArgument("disturb(0, 0, 2)", () -> net.disturb(0, 0, 2));
        check.refusesArgument("disturb(0, 0, -1)", () -> net.disturb(0, 0, -1));
        check.due("nothing to lose", net.disturb(0, 0, 0), false);
        check.due("nothing to double", net.disturb(0, 0, 1), false);
        net.send(0, 0);
        net.send(0, 0);
        check.due("doubled", net.disturb(0, 0, 1), true);
        check.due("frames", net.channel(0, 0, 6), 3);
        check.due("the first", net.carry(0, 0), 1);
        check.due("the second, right behind it", net.carry(0, 0), 3);
        check.due("the next one", net.carry(0, 0), 1);
        for (int k = 0; k < 197; k++) {
            check.due("doubled " + k, net.disturb(0, 1, 1), true);
        }
        check.due("200 frames", net.channel(0, 1, 6), 200);
        check.due("no more", net.disturb(0, 1, 1), false);
        check.due("still 200", net.channel(0, 1, 6), 200);
        check.due("lost", net.disturb(0, 1, 0), true);
        check.due("199", net.channel(0, 1, 6), 199);
        check.due("doubled to 200", net.disturb(0, 1, 1), true);
        for (int k = 0; k < 200; k++) {
            check.due("carry", net.carry(0, 1), 4);
        }
        check.due("the last one frees all", net.channel(0, 0, 5), 0);
        check.due("nothing left", net.disturb(0, 1, 0), false);
    }

    private static void serve() {
        Net net = Scenes.pairWith(3);
        check.refusesArgument("serve(-1, ..)", () -> net.serve(-1, false));
        check.refusesArgument("serve(8, ..)", () -> net.serve(8, true));
        check.refusesArgument("serve(1, ..)", () -> net.serve(1, true));
        check.due("it is in service", net.serve(0, true), false);
        net.send(0, 0);
        net.carry(0, 0);
        net.send(0, 0);
        check.due("cut", net.serve(0, false), true);
        dueChannel("queue, kept and expected stay", net, 0, 0, 0, 0, 0, 1, 0, 2, 0, 3, 2);
        check.due("the other wire is lost too", net.channel(0, 1, 6), 0);
        check.due("it is cut", net.serve(0, false), false);
        check.due("nothing is carried", net.carry(0, 0), 0);
        check.due("in service again", net.serve(0, true), true);
        dueChannel("nothing comes back", net, 0, 0, 0, 0, 0, 1, 0, 2, 0, 3, 2);
        check.due("the next serial", net.send(0, 0), 3);
        check.due("early", net.carry(0, 0), 2);
        check.due("the request", net.carry(0, 1), 5);
        check.due("2 and 3", net.channel(0, 0, 6), 2);
    }

    private static void heldAgain() {
        Net net = new Net();
        net.line(0, 0, 1);
        net.line(1, 1, 0);
        Texts.route(net, 0, "A", 0, -1);
        Texts.route(net, 0, "B", 1, -1);
        Texts.route(net, 1, "A", -1, -1);
        Texts.route(net, 1, "C", 1, -1);
        net.serve(0, false);
        net.serve(1, false);
        Texts.file(net, 0, Texts.simple("GG", "BAAAAAAA", "AAAAAAAA"));
        Texts.file(net, 0, Texts.simple("GG", "AAAAAAAB"));
        Texts.file(net, 0, Texts.simple("GG", "BAAAAAAC"));
        Texts.file(net, 0, Texts.simple("SS", "AAAAAAAD"));
        Texts.file(net, 1, Texts.simple("GG", "CAAAAAAA"));
        check.due("held at 0", net.count(0, 2), 4);
        check.due("held at 1", net.count(1, 2), 1);
        net.serve(0, true);
        check.due("what line 0 doesn't serve is held again", net.count(0, 2), 2);
        check.due("at 1 too", net.count(1, 2), 1);
        dueChannel("taken by age", net, 0, 0, 1, 0, 0, 2, 0, 0, 0, 1, 1);
        for (int k = 0; k < 3; k++) {
            net.send(0, 0);
            net.carry(0, 0);
        }
        check.due("SS first", net.arrived(4, 0), true);
        check.due("then the oldest", Texts.onDesk(net, 1, 1).contains("AAAAAAAA"), true);
        check.due("then the next", Texts.onDesk(net, 1, 2).contains("AAAAAAAB"), true);
        check.due("an address that is still held", net.arrived(1, 0), false);
        net.serve(1, true);
        check.due("all of a is taken", net.count(0, 2), 0);
        check.due("what went by line 0 is not held too", net.channel(0, 0, 3), 0);
        check.due("all of b is taken", net.count(1, 2), 0);
        check.due("from b of line 1", net.channel(1, 1, 3), 2);
        check.due("from a of line 1", net.channel(1, 0, 3), 1);
        check.due("nothing of them is unknown", net.count(0, 0), 0);
        heldStandBehind();
    }

    /** Held again means behind what else is held, but all that are taken keep their order. */
    private static void heldStandBehind() {
        Net net = new Net();
        net.line(0, 0, 1);
        net.line(1, 0, 2);
        Texts.route(net, 0, "A", 0, -1);
        Texts.route(net, 2, "A", 1, -1);
        Texts.route(net, 1, "A", -1, -1);
        net.serve(0, false);
        for (int k = 0; k < 4; k++) {
            int from = k == 1 ? 2 : 0;
            Texts.file(net, from, Texts.simple("GG", "AAAAAAA" + (char) ('A' + k)));
            if (from == 2) {
                net.send(1, 1);
                net.carry(1, 1);
            }
            if (k == 2) {
                net.serve(1, false);
                net.serve(1, true);
            }
        }
        check.due("held", net.count(0, 2), 4);
        net.serve(0, true);
        for (int k = 0; k < 4; k++) {
            net.send(0, 0);
            net.carry(0, 0);
            check.due("held number " + k, net.read(1, k, 10), 'A' + k);
        }
    }

    private static void heldNotBackByItsLine() {
        Net net = new Net();
        net.line(0, 0, 1);
        net.line(1, 1, 2);
        Texts.route(net, 0, "A", 0, -1);
        Texts.route(net, 1, "A", 1, 0);
        Texts.route(net, 2, "A", -1, -1);
        net.serve(1, false);
        String text = Texts.simple("FF", "AAAAAAAA");
        Texts.file(net, 1, text);
        check.due("filed there: by the alternate", net.channel(0, 1, 2), 1);
        Texts.file(net, 0, text);
        net.send(0, 0);
        net.carry(0, 0);
        check.due("not back by the alternate it came by", net.channel(0, 1, 2), 1);
        check.due("but held", net.count(1, 2), 1);
        net.serve(0, false);
        net.serve(0, true);
        check.due("still held, told by its line", net.count(1, 2), 1);
        check.due("and not queued back", net.channel(0, 1, 2), 1);
        net.serve(1, true);
        check.due("taken by the main line", net.channel(1, 0, 2), 1);
        net.send(0, 1);
        net.carry(0, 1);
        net.carry(0, 1);
        check.due("at 0 the main line is the one it came by", net.count(0, 2), 1);
        net.serve(0, false);
        net.serve(0, true);
        check.due("it stays there", net.count(0, 2), 1);
        net.send(1, 0);
        net.carry(1, 0);
        check.due("one has arrived", net.arrived(2, 0), true);
        check.due("one has not", net.arrived(1, 0), false);
    }

    private static void time() {
        Net net = Scenes.pairWith(2);
        check.refusesArgument("time(-1)", () -> net.time(-1));
        check.refusesArgument("time(1001)", () -> net.time(1001));
        check.refusesArgument("time(most)", () -> net.time(MOST));
        check.refusesArgument("time(least)", () -> net.time(LEAST));
        check.due("nothing is kept", net.time(1000), 0);
        check.due("minute", net.count(-1, 3), 1000);
        check.due("time(0)", net.time(0), 0);
        net.send(0, 0);
        net.time(3);
        net.send(0, 0);
        check.due("4 minutes behind the last one", net.time(4), 0);
        check.due("5 minutes behind it", net.time(1), 1);
        check.due("frames", net.channel(0, 0, 6), 3);
        check.due("at once only once", net.time(1000), 1);
        check.due("and not twice", net.time(0), 0);
        check.due("minute", net.count(-1, 3), 2008);
        int[] wants = {1, 1, 3, 3, 0};
        for (int k = 0; k < wants.length; k++) {
            check.due("the oldest was put again: carry " + k, net.carry(0, 0), wants[k]);
        }
        check.due("what was taken is kept still", net.time(5), 1);
        check.due("again", net.carry(0, 0), 3);
        for (int k = 0; k < 5; k++) {
            net.carry(0, 1);
        }
        check.due("nothing is kept any more", net.time(5), 0);
        timeOfManyChannels();
        acknowledgementsAreNoMessages();
    }

    private static void timeOfManyChannels() {
        Net net = new Net();
        for (int l = 0; l < 4; l++) {
            net.line(l, 0, 1);
            Texts.route(net, 0, "" + (char) ('A' + l), l, -1);
            Texts.route(net, 1, "" + (char) ('A' + l), l, -1);
        }
        String text = Texts.simple("GG", "AAAAAAAA", "BAAAAAAA", "CAAAAAAA", "DAAAAAAA");
        Texts.file(net, 0, text);
        Texts.file(net, 1, text);
        for (int l = 0; l < 4; l++) {
            net.send(l, 0);
            net.send(l, 1);
        }
        check.due("both channels of four lines", net.time(5), 8);
        check.due("each has two frames", net.channel(3, 1, 6), 2);
        net.serve(2, false);
        check.due("not of a cut one", net.time(5), 6);
    }

    private static void acknowledgementsAreNoMessages() {
        Net net = Scenes.pairWith(2);
        Texts.file(net, 1, Texts.simple("GG", "EAAAAAAA"));
        net.send(0, 1);
        net.send(0, 0);
        net.time(4);
        net.carry(0, 0);
        net.disturb(0, 1, 1);
        check.due("channel 1 put an acknowledgement, and was disturbed", net.time(1), 2);
    }

    private static void timeOfACutLine() {
        Net net = Scenes.pairWith(1);
        net.send(0, 0);
        net.serve(0, false);
        check.due("a cut line puts nothing", net.time(9), 0);
        net.serve(0, true);
        check.due("nor does its coming into service", net.channel(0, 0, 6), 0);
        check.due("but the clock, going on", net.time(0), 1);
        check.due("frames", net.channel(0, 0, 6), 1);
    }

    private static void delivered() {
        Net net = Scenes.pair();
        check.refusesArgument("delivered(-1)", () -> net.delivered(-1));
        check.refusesArgument("delivered(6)", () -> net.delivered(6));
        Texts.file(net, 0, Texts.simple("SS", "EAAAAAAA", "EABAAAAA", "EBAAAAAA", "EACAAAAA"));
        check.due("one message, three addresses", net.delivered(0), 1);
        check.due("nothing yet", net.delivered(1), 0);
        net.send(0, 0);
        net.carry(0, 0);
        check.due("it is delivered at two desks", net.delivered(1), 1);
        Texts.file(net, 0, Texts.simple("SS", "EAAAAAAA"));
        check.due("another message for the same address", net.delivered(0), 2);
        for (int s = 2; s < 6; s++) {
            check.due("nothing elsewhere", net.delivered(s), 0);
        }
        twiceAtOneDesk();
        atAnotherDeskBetween();
    }

    private static void atAnotherDeskBetween() {
        Net net = new Net();
        for (int l = 0; l < 3; l++) {
            net.line(l, 0, 1 + l / 2);
            Texts.route(net, 0, "" + (char) ('A' + l), l, -1);
            Texts.route(net, 1, "" + (char) ('A' + l), -1, -1);
            Texts.route(net, 2, "" + (char) ('A' + l), -1, -1);
        }
        Texts.file(net, 0, Texts.simple("SS", "AAAAAAAA", "BAAAAAAA", "CAAAAAAA"));
        for (int l : new int[] {0, 2, 1}) {
            net.send(l, 0);
            net.carry(l, 0);
        }
        check.due("once at 1", net.delivered(1), 1);
        check.due("once at 2", net.delivered(2), 1);
        check.due("all have arrived", net.arrived(1, 0) && net.arrived(1, 1) && net.arrived(1, 2), true);
    }

    /** The addresses of one message may come to one desk by two ways. */
    private static void twiceAtOneDesk() {
        Net net = new Net();
        net.line(0, 0, 1);
        net.line(1, 0, 1);
        Texts.route(net, 0, "A", 0, -1);
        Texts.route(net, 0, "B", 1, -1);
        Texts.route(net, 1, "A", -1, -1);
        Texts.route(net, 1, "B", -1, -1);
        Texts.file(net, 0, Texts.simple("SS", "AAAAAAAA", "BAAAAAAA"));
        Texts.file(net, 0, Texts.simple("DD", "BAAAAAAA"));
        net.send(1, 0);
        net.send(1, 0);
        net.send(0, 0);
        net.carry(1, 0);
        net.carry(1, 0);
        check.due("both messages", net.delivered(1), 2);
        net.carry(0, 0);
        check.due("no more by another address", net.delivered(1), 2);
        check.due("by the first of its addresses", net.read(1, 0, 0), 'S');
        check.due("then the other", net.read(1, 1, 0), 'D');
        check.due("which is not double", net.count(1, 1), 0);
        check.due("both have arrived", net.arrived(1, 0) && net.arrived(1, 1), true);
    }

    private static void read() {
        Net net = Scenes.pair();
        String[] texts = {Texts.simple("SS", "EAAAAAAA"),
            Texts.simple("KK", "EABAAAAA", "EACAAAAA").replace("NNNN", "A - ? : ( ) . , ' / + = 9\nNNNN")};
        Texts.file(net, 0, texts[0]);
        Texts.file(net, 0, texts[1]);
        for (int k = 0; k < 2; k++) {
            check.due("the whole text " + k, Texts.onDesk(net, 0, k).equals(texts[k]), true);
            check.due("its last byte", net.read(0, k, texts[k].length() - 1), 'N');
            check.due("behind it", net.read(0, k, texts[k].length()), -1);
        }
        check.due("no such message", net.read(0, 2, 0), -1);
        check.due("no message -1", net.read(0, -1, 0), -1);
        check.due("no message most", net.read(0, MOST, 0), -1);
        check.due("no message least", net.read(0, LEAST, 0), -1);
        check.due("no byte -1", net.read(0, 0, -1), -1);
        check.due("no byte most", net.read(0, 0, MOST), -1);
        check.due("no byte least", net.read(0, 0, LEAST), -1);
        check.due("nothing at another desk", net.read(1, 0, 0), -1);
        check.refusesArgument("read(-1, 0, 0)", () -> net.read(-1, 0, 0));
        check.refusesArgument("read(6, 0, 0)", () -> net.read(6, 0, 0));
        Net full = Scenes.pair();
        Texts.write(full, texts[0]);
        for (int k = 0; k < 200; k++) {
            full.file(0, texts[0].length());
        }
        check.due("200 are delivered", full.delivered(0), 200);
        check.due("the last of 200", full.read(0, 199, 0), 'S');
        check.due("behind 200", full.read(0, 200, 0), -1);
    }

    private static void arrived() {
        Net net = Scenes.pair();
        check.refusesArgument("arrived(1, 0) when nothing is filed", () -> net.arrived(1, 0));
        Texts.file(net, 0, Texts.simple("SS", "EBAAAAAA", "EAAAAAAA", "ECAAAAAA"));
        check.refusesArgument("arrived(0, 0)", () -> net.arrived(0, 0));
        check.refusesArgument("arrived(2, 0)", () -> net.arrived(2, 0));
        check.refusesArgument("arrived(-1, 0)", () -> net.arrived(-1, 0));
        check.refusesArgument("arrived(least, 0)", () -> net.arrived(LEAST, 0));
        check.refusesArgument("arrived(1, -1)", () -> net.arrived(1, -1));
        check.refusesArgument("arrived(1, 3)", () -> net.arrived(1, 3));
        check.refusesArgument("arrived(1, most)", () -> net.arrived(1, MOST));
        check.due("on its way", net.arrived(1, 0), false);
        check.due("delivered", net.arrived(1, 1), true);
        check.due("unknown", net.arrived(1, 2), false);
        net.send(0, 0);
        check.due("on the wire", net.arrived(1, 0), false);
        net.carry(0, 0);
        check.due("delivered elsewhere", net.arrived(1, 0), true);
    }

    private static void channel() {
        Net net = Scenes.pairWith(2);
        check.refusesArgument("channel(-1, 0, 0)", () -> net.channel(-1, 0, 0));
        check.refusesArgument("channel(8, 0, 0)", () -> net.channel(8, 0, 0));
        check.refusesArgument("channel(1, 0, 0)", () -> net.channel(1, 0, 0));
        check.refusesArgument("channel(0, 2, 0)", () -> net.channel(0, 2, 0));
        check.refusesArgument("channel(0, -1, 0)", () -> net.channel(0, -1, 0));
        check.refusesArgument("channel(0, 0, -1)", () -> net.channel(0, 0, -1));
        check.refusesArgument("channel(0, 0, 9)", () -> net.channel(0, 0, 9));
        check.refusesArgument("channel(0, 0, most)", () -> net.channel(0, 0, MOST));
        String[] priorities = {"SS", "DD", "FF", "GG", "KK"};
        for (int p = 0; p < 5; p++) {
            for (int k = 0; k <= p; k++) {
                Texts.file(net, 0, Texts.simple(priorities[p], "EBAAAAAA"));
            }
        }
        dueChannel("queued", net, 0, 0, 1, 2, 3, 6, 5, 0, 0, 1, 1);
        net.send(0, 0);
        net.send(0, 0);
        net.carry(0, 0);
        dueChannel("sent", net, 0, 0, 0, 1, 3, 6, 5, 2, 1, 3, 2);
        dueChannel("the other channel", net, 0, 1, 0, 0, 0, 0, 0, 0, 1, 1, 1);
    }

    private static void count() {
        Net net = Scenes.pair();
        int[][] wrong = {{-1, 0}, {-1, 1}, {-1, 2}, {-1, 5}, {-1, -1}, {0, 3}, {0, 4}, {5, 3}, {0, -1}, {0, 5},
            {6, 0}, {6, 3}, {-2, 3}, {-2, 0}, {LEAST, 4}, {MOST, 0}, {0, MOST}};
        for (int[] pair : wrong) {
            check.refusesArgument("count(" + pair[0] + ", " + pair[1] + ")", () -> net.count(pair[0], pair[1]));
        }
        Texts.file(net, 0, Texts.simple("SS", "XAAAAAAA", "EBAAAAAA", "EXAAAAAA"));
        check.due("unknown, address by address", net.count(0, 0), 2);
        check.due("unknown elsewhere", net.count(1, 0), 0);
        net.serve(0, false);
        Texts.file(net, 0, Texts.simple("SS", "EBAAAAAA", "EBBAAAAA"));
        check.due("held, copy by copy", net.count(0, 2), 1);
        check.due("held elsewhere", net.count(1, 2), 0);
        check.due("double", net.count(0, 1), 0);
        check.due("filed", net.count(-1, 4), 2);
        net.time(7);
        check.due("minute", net.count(-1, 3), 7);
        unknownBehindALine();
    }

    private static void unknownBehindALine() {
        Net net = new Net();
        net.line(0, 0, 1);
        Texts.route(net, 0, "E", 0, -1);
        Texts.route(net, 1, "EA", -1, -1);
        Texts.file(net, 0, Texts.simple("SS", "EBAAAAAA", "EAAAAAAA"));
        net.send(0, 0);
        check.due("taken", net.carry(0, 0), 1);
        check.due("unknown there", net.count(1, 0), 1);
        check.due("not here", net.count(0, 0), 0);
        check.due("the other one is delivered", net.arrived(1, 1), true);
    }
}
