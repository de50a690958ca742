/** Nets in which tests begin. */
final class Scenes {
    static final String TO_B = Texts.simple("GG", "EBAAAAAA");
    static final String TO_ALL = Texts.simple("GG", "EAAAAAAA", "EBAAAAAA", "ECAAAAAA", "EDAAAAAA", "EEAAAAAA",
            "EFAAAAAA", "EEBAAAAA");

    private Scenes() {
    }

    /** Line 0 between 0 and 1; EA is at the desk of 0, EB at the desk of 1. */
    static Net pair() {
        return layPair(new Net());
    }

    static Net layPair(Net net) {
        net.line(0, 0, 1);
        Texts.route(net, 0, "EA", -1, -1);
        Texts.route(net, 0, "EB", 0, -1);
        Texts.route(net, 1, "EB", -1, -1);
        Texts.route(net, 1, "EA", 0, -1);
        return net;
    }

    /** So many messages wait at 0 for the desk of 1. */
    static Net pairWith(int messages) {
        Net net = pair();
        Texts.write(net, TO_B);
        for (int k = 0; k < messages; k++) {
            net.file(0, TO_B.length());
        }
        return net;
    }

    /** So many of the messages are sent, too. */
    static Net pairWithSent(int messages, int sent) {
        Net net = pairWith(messages);
        for (int k = 0; k < sent; k++) {
            net.send(0, 0);
        }
        return net;
    }

    /** The wire of channel 0 has 200 frames, all of serial 1. */
    static Net fullWire(int messages) {
        Net net = pairWithSent(messages, 1);
        fill(net, 0, 0);
        return net;
    }

    /** Doubles the oldest frame until the wire is full. */
    static void fill(Net net, int l, int channel) {
        for (int k = net.channel(l, channel, 6); k < 200; k++) {
            net.disturb(l, channel, 1);
        }
    }

    /**
     * Something of everything: lines in service, cut and not there, a switch with four of them;
     * copies that wait, are kept, held and delivered; frames of all kinds on wires; a good text.
     */
    static Net busy() {
        Net net = new Net();
        layBusy(net);
        Texts.write(net, TO_ALL);
        for (int s = 0; s < 3; s++) {
            net.file(s, TO_ALL.length());
            net.put(0, Texts.word("KK\nE", 0));
            net.file(s, TO_ALL.length());
            net.put(0, Texts.word("GG\nE", 0));
        }
        for (int k = 0; k < 3; k++) {
            net.send(0, 0);
        }
        net.send(2, 1);
        net.send(0, 1);
        net.time(1);
        net.carry(0, 0);
        net.disturb(0, 0, 0);
        net.carry(0, 0);
        net.time(1);
        // What is held for EEA would go by line 3, if it were taken now.
        Texts.route(net, 0, "EEA", 3, -1);
        return net;
    }

    private static void layBusy(Net net) {
        net.line(0, 0, 1);
        net.line(1, 1, 2);
        net.line(2, 0, 2);
        net.line(3, 0, 3);
        net.line(4, 4, 0);
        net.line(7, 4, 5);
        Texts.route(net, 0, "EA", -1, -1);
        Texts.route(net, 0, "EB", 0, 2);
        Texts.route(net, 0, "EC", 2, 0);
        Texts.route(net, 0, "ED", 3, -1);
        Texts.route(net, 0, "EE", 4, -1);
        Texts.route(net, 1, "EA", 0, 1);
        Texts.route(net, 1, "EB", -1, 0);
        Texts.route(net, 1, "E", 1, 0);
        Texts.route(net, 2, "EA", 2, 1);
        Texts.route(net, 2, "EC", -1, -1);
        Texts.route(net, 2, "E", 1, 2);
        Texts.route(net, 4, "EE", -1, -1);
        Texts.route(net, 5, "EE", 7, -1);
        net.serve(4, false);
    }

    /** Switch 0 has four lines, switch 1 two, 2 and 3 have one; the others none; lines 4 to 7 aren't there. */
    static Net fourLines() {
        Net net = new Net();
        for (int l = 0; l < 4; l++) {
            net.line(l, 0, Math.max(l, 1));
        }
        return net;
    }

    /** Switch 0 has 16 entries, all for its desk, the last one EF; line 0 is at it, line 1 is not. */
    static Net sixteenEntries() {
        Net net = new Net();
        net.line(0, 0, 1);
        net.line(1, 1, 2);
        String[] last = {"EA", "EB", "EC", "ED", "EF"};
        for (int k = 0; k < 16; k++) {
            Texts.route(net, 0, k < 11 ? "" + (char) ('F' + k) : last[k - 11], -1, -1);
        }
        Texts.write(net, TO_ALL);
        return net;
    }

    /** 200 messages are filed, 3 of them for line 0; the text to be filed is a good one. */
    static Net twoHundredFiled() {
        Net net = pairWith(3);
        Texts.write(net, TO_ALL);
        for (int k = 3; k < 200; k++) {
            net.file(3, TO_ALL.length());
        }
        return net;
    }
}
