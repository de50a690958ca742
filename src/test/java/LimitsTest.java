/** The sentences of "Terms" that tell a limit, a method for each: what is just within and just beyond it. */
public final class LimitsTest {
    private static final Check check = new Check();

    public static void main(String[] args) {
        switchesAre0To5();
        linesAre0To7();
        aSwitchHasFourLines();
        aLineHasTwoChannels();
        aSwitchHas16Entries();
        aPrefixHas1To8Letters();
        lettersAreAToZ();
        theLongestPrefixCounts();
        theAlternateOfTheDeskIsNeverUsed();
        noAlternate();
        anAddressWithoutAnEntryGoes();
        theMainLineIsCut();
        notBackByTheMainLine();
        notBackByTheAlternateLine();
        oneCopyForEachLine();
        heldAreTakenOnce();
        heldAgainStandBehind();
        heldAreTakenAtBothEnds();
        heldAreToldByTheirLine();
        theHighestPriorityThenTheOldest();
        theFirstSerialIs001();
        behind999Comes001();
        atMost20AreKept();
        theExpectedIsTaken();
        earlyByOneAndBy19();
        againByOneAndBy20();
        aRequestIn3Minutes();
        aRequestOfAnotherSerial();
        aRequestThatWasCut();
        aRequestOfEachChannel();
        anAcknowledgementFreesUpToItsSerial();
        anAcknowledgementOfWhatIsNotKept();
        aRequestPutsFromItsSerialOn();
        fiveMinutesWithoutAMessageFrame();
        fiveMinutesBehindARequest();
        aSendOfNothingPutsNoFrame();
        aLineThatIsCutPutsNoFrame();
        onlyTheOldestIsPutAgain();
        aCutLineLosesItsWires();
        aCutLineIsNotReminded();
        atMost200AreFiled();
        aFullWireLosesASentFrame();
        aFullWireLosesAnAcknowledgement();
        aFullWireLosesARequest();
        aFullWireLosesWhatIsRequested();
        aFullWireLosesWhatIsPutAgain();
        check.end();
    }

    private static void dueChannel(String when, Net net, int l, int c, int... wants) {
        for (int what = 0; what < wants.length; what++) {
            check.due(when + ": channel(" + l + ", " + c + ", " + what + ")", net.channel(l, c, what), wants[what]);
        }
    }

    private static void carryAll(String when, Net net, int c, int... wants) {
        for (int want : wants) {
            check.due(when + ": carry(0, " + c + ")", net.carry(0, c), want);
        }
        check.due(when + ": carry(0, " + c + ") of nothing", net.carry(0, c), 0);
    }

    private static void loseFirst(Net net, int c, int frames) {
        for (int k = 0; k < frames; k++) {
            check.due("disturb(0, " + c + ", 0)", net.disturb(0, c, 0), true);
        }
    }

    private static void send(Net net, int c, int first, int last) {
        for (int serial = first; serial <= last; serial++) {
            check.due("send(0, " + c + ")", net.send(0, c), serial);
        }
    }

    private static void switchesAre0To5() {
        Net net = new Net();
        net.line(0, 0, 5);
        for (int s = 0; s < 6; s++) {
            Texts.route(net, s, "E", -1, -1);
        }
        Texts.write(net, Scenes.TO_B);
        for (int s = 0; s < 6; s++) {
            check.due("file at " + s, net.file(s, Scenes.TO_B.length()), s + 1);
            check.due("delivered(" + s + ")", net.delivered(s), 1);
            check.due("read(" + s + ", 0, 0)", net.read(s, 0, 0), 'G');
            check.due("count(" + s + ", 2)", net.count(s, 2), 0);
        }
        check.refusesArgument("switch 6", () -> net.file(6, Scenes.TO_B.length()));
        check.refusesArgument("switch -1", () -> net.file(-1, Scenes.TO_B.length()));
    }

    private static void linesAre0To7() {
        Net net = new Net();
        for (int l = 0; l < 8; l++) {
            net.line(l, l % 6, (l + 1 + l / 6) % 6);
            Texts.route(net, l % 6, "A" + (char) ('A' + l), l, -1);
        }
        Texts.write(net, Texts.simple("SS", "AAAAAAAA"));
        for (int l = 0; l < 8; l++) {
            net.put(4, Texts.word((char) ('A' + l) + "AAA", 0));
            check.due("file", net.file(l % 6, 32), l + 1);
            check.due("a copy for line " + l, net.channel(l, 0, 0), 1);
            check.due("send(" + l + ", 0)", net.send(l, 0), 1);
            check.due("disturb(" + l + ", 0, 1)", net.disturb(l, 0, 1), true);
            check.due("carry(" + l + ", 0)", net.carry(l, 0), 1);
            check.due("serve(" + l + ", false)", net.serve(l, false), true);
            check.due("serve(" + l + ", true)", net.serve(l, true), true);
        }
        check.refusesArgument("line 8", () -> net.line(8, 0, 3));
        check.refusesArgument("line -1", () -> net.line(-1, 0, 3));
    }

    /** As a or as b, it is one of its four; the others may have more. */
    private static void aSwitchHasFourLines() {
        Net asA = new Net();
        Net asB = new Net();
        Net mixed = new Net();
        for (int l = 0; l < 4; l++) {
            asA.line(l, 0, l + 1);
            asB.line(l, l + 1, 0);
            mixed.line(l, l % 2 == 0 ? 0 : 5, l % 2 == 0 ? 5 : 0);
        }
        for (Net net : new Net[] {asA, asB, mixed}) {
            check.refusesArgument("a fifth one as a", () -> net.line(4, 0, 1));
            check.refusesArgument("a fifth one as b", () -> net.line(4, 1, 0));
        }
        check.refusesArgument("a fifth one of both", () -> mixed.line(4, 5, 0));
        asA.serve(0, false);
        check.refusesArgument("a fifth one, one being cut", () -> asA.line(4, 0, 5));
        asA.line(4, 1, 2);
        asA.line(5, 2, 1);
        asA.line(6, 1, 2);
        check.refusesArgument("a fifth line of 1 and 2", () -> asA.line(7, 1, 2));
        asA.line(7, 3, 4);
        check.due("the eighth line is there", asA.serve(7, true), false);
    }

    private static void aLineHasTwoChannels() {
        Net net = new Net();
        net.line(3, 4, 2);
        Texts.route(net, 4, "A", 3, -1);
        Texts.route(net, 2, "B", 3, -1);
        Texts.file(net, 4, Texts.simple("SS", "AAAAAAAA"));
        check.due("from a: channel 0", net.channel(3, 0, 0), 1);
        check.due("from a: not channel 1", net.channel(3, 1, 0), 0);
        Texts.file(net, 2, Texts.simple("DD", "BAAAAAAA"));
        check.due("from b: channel 1", net.channel(3, 1, 1), 1);
        check.due("from b: not channel 0", net.channel(3, 0, 1), 0);
        net.send(3, 0);
        net.send(3, 1);
        net.carry(3, 0);
        check.due("channel 0 comes to b", net.count(2, 0), 1);
        net.carry(3, 1);
        check.due("channel 1 comes to a", net.count(4, 0), 1);
        check.refusesArgument("channel 2", () -> net.send(3, 2));
        check.refusesArgument("channel -1", () -> net.send(3, -1));
    }

    private static void aSwitchHas16Entries() {
        Net net = new Net();
        for (int s = 0; s < 2; s++) {
            for (int k = 0; k < 16; k++) {
                net.route(s, 'A' + k, 0, 1, -1, -1);
            }
        }
        check.refusesState("a 17th entry of 0", () -> net.route(0, 'Q', 0, 1, -1, -1));
        check.refusesState("a 17th entry of 1", () -> net.route(1, 'Q', 0, 1, -1, -1));
        Texts.file(net, 1, Texts.simple("SS", "PAAAAAAA", "QAAAAAAA", "AAAAAAAA"));
        check.due("the 16th counts", net.arrived(1, 0), true);
        check.due("the 17th doesn't", net.arrived(1, 1), false);
        check.due("the first does", net.arrived(1, 2), true);
    }

    private static void aPrefixHas1To8Letters() {
        Net net = new Net();
        String letters = "ABCDEFGH";
        for (int n = 1; n <= 8; n++) {
            Texts.route(net, n % 6, letters.substring(0, n), -1, -1);
        }
        check.refusesArgument("0 letters", () -> net.route(0, 0, 0, 0, -1, -1));
        check.refusesArgument("9 letters", () -> net.route(0, 0x41414141, 0x41414141, 9, -1, -1));
        Texts.file(net, 4, Texts.simple("SS", "ABCDAAAA", "ABCAAAAA", "ABCDEFGH"));
        check.due("four letters", net.arrived(1, 0), true);
        check.due("three letters are too few", net.arrived(1, 1), false);
        check.due("more begin with four", net.arrived(1, 2), true);
        Texts.file(net, 2, Texts.simple("SS", "ABCDEFGH", "ABCDEFGA", "ABBAAAAA", "AABBBBBB"));
        check.due("eight letters, or two", net.arrived(2, 0) && net.arrived(2, 1) && net.arrived(2, 2), true);
        check.due("neither", net.arrived(2, 3), false);
    }

    private static void lettersAreAToZ() {
        for (int place = 0; place < 8; place++) {
            Net net = new Net();
            for (char letter = 'A'; letter <= 'Z'; letter++) {
                String prefix = "M".repeat(place) + letter;
                int s = (letter - 'A') / 16;
                Texts.route(net, s, prefix, -1, -1);
                String address = (prefix + "MMMMMMM").substring(0, 8);
                Texts.write(net, Texts.simple("SS", address));
                if (letter == 'A' || letter == 'Z') {
                    check.due("file for " + address, net.file(s, 32), letter == 'A' ? 1 : 2);
                    check.due("delivered by " + prefix, net.delivered(s), 1);
                }
            }
        }
    }

    /** Whether the longer ones are made first or last; each of the eight lengths once. */
    private static void theLongestPrefixCounts() {
        String letters = "ABCDEFGH";
        for (int order = 0; order < 2; order++) {
            Net net = new Net();
            for (int l = 0; l < 4; l++) {
                net.line(l, 0, l + 1);
            }
            for (int n = 1; n <= 8; n++) {
                int length = order == 0 ? n : 9 - n;
                Texts.route(net, 0, letters.substring(0, length), length % 5 - 1, -1);
            }
            Texts.write(net, Texts.simple("SS", letters));
            for (int length = 8; length >= 1; length--) {
                int l = length % 5 - 1;
                int queued = l < 0 ? net.delivered(0) : net.channel(l, 0, 0);
                net.file(0, 32);
                check.due("by " + length + " letters", l < 0 ? net.delivered(0) : net.channel(l, 0, 0), queued + 1);
                net.put(2 + length, Texts.word("Z".repeat(9 - length) + "\n010", 0));
            }
            check.due("no letter", net.file(0, 32), 9);
            check.due("no prefix", net.count(0, 0), 1);
        }
    }

    private static void theAlternateOfTheDeskIsNeverUsed() {
        Net net = Scenes.pair();
        Texts.route(net, 0, "ED", -1, 0);
        Texts.file(net, 0, Texts.simple("SS", "EDAAAAAA"));
        check.due("delivered", net.delivered(0), 1);
        check.due("not by the line", net.channel(0, 0, 0), 0);
        net.serve(0, false);
        check.due("also if it is cut", net.file(0, 32), 2);
        check.due("delivered", net.delivered(0), 2);
        check.due("not held", net.count(0, 2), 0);
    }

    private static void noAlternate() {
        Net net = Scenes.pair();
        net.serve(0, false);
        Texts.file(net, 0, Scenes.TO_B);
        check.due("held", net.count(0, 2), 1);
        dueChannel("not in a queue", net, 0, 0, 0, 0, 0, 0, 0);
        check.due("not unknown", net.count(0, 0), 0);
    }

    private static void anAddressWithoutAnEntryGoes() {
        Net net = Scenes.pair();
        Texts.file(net, 0, Texts.simple("SS", "XAAAAAAA", "EAAAAAAA", "EXAAAAAA", "XBAAAAAA"));
        check.due("unknown", net.count(0, 0), 3);
        check.due("the others don't", net.arrived(1, 1), true);
        net.serve(0, false);
        net.serve(0, true);
        check.due("they are not held", net.count(0, 0), 3);
        check.due("a message of unknown ones is filed", Texts.file(net, 0, Texts.simple("SS", "XAAAAAAA")), 2);
        check.due("unknown", net.count(0, 0), 4);
    }

    /** The main line, the alternate, none of them. */
    private static void theMainLineIsCut() {
        Net net = new Net();
        net.line(0, 0, 1);
        net.line(1, 0, 1);
        Texts.route(net, 0, "A", 1, 0);
        Texts.write(net, Texts.simple("FF", "AAAAAAAA"));
        net.file(0, 32);
        check.due("by the main line", net.channel(1, 0, 2), 1);
        net.serve(1, false);
        net.file(0, 32);
        check.due("by the alternate one", net.channel(0, 0, 2), 1);
        net.serve(0, false);
        net.file(0, 32);
        check.due("held", net.count(0, 2), 1);
        net.serve(1, true);
        check.due("held no more", net.count(0, 2), 0);
        check.due("by the main line again", net.channel(1, 0, 2), 2);
        check.due("what was queued stays", net.channel(0, 0, 2), 1);
    }

    private static void notBackByTheMainLine() {
        Net net = new Net();
        net.line(0, 0, 1);
        net.line(1, 1, 2);
        Texts.route(net, 0, "A", 0, -1);
        Texts.route(net, 0, "B", 0, -1);
        Texts.route(net, 1, "A", 0, 1);
        Texts.route(net, 1, "B", 0, -1);
        Texts.file(net, 0, Texts.simple("FF", "AAAAAAAA", "BAAAAAAA"));
        net.send(0, 0);
        check.due("taken", net.carry(0, 0), 1);
        check.due("not back", net.channel(0, 1, 2), 0);
        check.due("by the alternate one", net.channel(1, 0, 2), 1);
        check.due("held without an alternate", net.count(1, 2), 1);
        net.file(1, 41);
        check.due("what was filed there goes by the main line", net.channel(0, 1, 2), 1);
    }

    private static void notBackByTheAlternateLine() {
        Net net = new Net();
        net.line(0, 0, 1);
        net.line(1, 1, 2);
        Texts.route(net, 0, "A", 0, -1);
        Texts.route(net, 1, "A", 1, 0);
        net.serve(1, false);
        Texts.file(net, 0, Texts.simple("FF", "AAAAAAAA"));
        net.send(0, 0);
        check.due("taken", net.carry(0, 0), 1);
        check.due("not back", net.channel(0, 1, 2), 0);
        check.due("held", net.count(1, 2), 1);
        net.file(1, 32);
        check.due("what was filed there goes by the alternate one", net.channel(0, 1, 2), 1);
    }

    private static void oneCopyForEachLine() {
        Net net = new Net();
        for (int l = 0; l < 4; l++) {
            net.line(l, 0, l + 1);
            Texts.route(net, 0, "" + (char) ('A' + l), l, -1);
            Texts.route(net, l + 1, "" + (char) ('A' + l), -1, -1);
        }
        net.serve(3, false);
        Texts.file(net, 0, Texts.simple("KK", "CAAAAAAA", "AAAAAAAA", "CBAAAAAA", "DAAAAAAA", "ABAAAAAA", "DBAAAAAA",
                "ACAAAAAA"));
        int[] wants = {1, 0, 1, 0};
        for (int l = 0; l < 4; l++) {
            check.due("copies for line " + l, net.channel(l, 0, 4), wants[l]);
        }
        check.due("one is held", net.count(0, 2), 1);
        net.send(0, 0);
        net.carry(0, 0);
        boolean[] arrived = {false, true, false, false, true, false, true};
        for (int k = 0; k < 7; k++) {
            check.due("line 0 has its addresses: arrived(1, " + k + ")", net.arrived(1, k), arrived[k]);
        }
        check.due("none else came there", net.count(1, 0), 0);
        net.serve(3, true);
        check.due("the held copy", net.channel(3, 0, 4), 1);
        net.send(3, 0);
        net.carry(3, 0);
        check.due("has its two addresses", net.arrived(1, 3) && net.arrived(1, 5), true);
        check.due("and no other", net.count(4, 0), 0);
        check.due("delivered once", net.delivered(4), 1);
    }

    /** What is held again is not taken a second time, though it stands behind the others then. */
    private static void heldAreTakenOnce() {
        Net net = new Net();
        net.line(0, 0, 1);
        net.line(1, 0, 2);
        Texts.route(net, 0, "A", 0, -1);
        net.serve(0, false);
        net.serve(1, false);
        Texts.write(net, Texts.simple("GG", "AAAAAAAA"));
        for (int k = 1; k <= 3; k++) {
            net.file(0, 32);
            check.due("held", net.count(0, 2), k);
        }
        net.serve(1, true);
        check.due("held again", net.count(0, 2), 3);
        net.serve(0, true);
        check.due("held no more", net.count(0, 2), 0);
        check.due("each once", net.channel(0, 0, 3), 3);
        net.serve(0, false);
        net.serve(0, true);
        check.due("what is in a queue stays there", net.channel(0, 0, 3), 3);
    }

    /** Held are B0, A1 and A2; A's line serves only A, so B0 is held again, ahead of what comes later. */
    private static void heldAgainStandBehind() {
        Net net = new Net();
        net.line(0, 0, 1);
        net.line(1, 0, 1);
        Texts.route(net, 0, "A", 0, -1);
        Texts.route(net, 0, "B", 1, -1);
        Texts.route(net, 1, "A", -1, -1);
        Texts.route(net, 1, "B", -1, -1);
        net.serve(0, false);
        net.serve(1, false);
        Texts.write(net, Texts.simple("GG", "BAAAAAAA"));
        for (int k = 0; k < 5; k++) {
            net.put(3, Texts.word((k == 0 || k > 2 ? "B" : "A") + "AAA", 0));
            net.put(7, Texts.word("AAA" + (char) ('A' + k), 0));
            if (k == 4) {
                net.serve(0, true);
                check.due("B is held again", net.count(0, 2), 2);
            }
            net.file(0, 32);
        }
        net.serve(1, true);
        for (int k = 0; k < 5; k++) {
            net.send(k < 2 ? 0 : 1, 0);
            net.carry(k < 2 ? 0 : 1, 0);
            check.due("desk " + k, net.read(1, k, 10), "BCADE".charAt(k));
        }
    }

    private static void heldAreTakenAtBothEnds() {
        Net net = new Net();
        net.line(0, 2, 1);
        net.line(1, 2, 3);
        Texts.route(net, 1, "A", 0, -1);
        Texts.route(net, 2, "A", 0, -1);
        Texts.route(net, 3, "A", 1, -1);
        net.serve(0, false);
        net.serve(1, false);
        Texts.write(net, Texts.simple("GG", "AAAAAAAA"));
        for (int s = 1; s < 4; s++) {
            net.file(s, 32);
        }
        net.serve(0, true);
        check.due("of a", net.channel(0, 0, 3), 1);
        check.due("of b", net.channel(0, 1, 3), 1);
        check.due("of no other switch", net.count(3, 2), 1);
        check.due("none at a", net.count(2, 2), 0);
        check.due("none at b", net.count(1, 2), 0);
    }

    private static void heldAreToldByTheirLine() {
        Net net = new Net();
        net.line(0, 0, 1);
        net.line(1, 1, 2);
        Texts.route(net, 0, "A", 0, -1);
        Texts.route(net, 1, "A", 1, 0);
        net.serve(1, false);
        Texts.file(net, 0, Texts.simple("GG", "AAAAAAAA"));
        net.send(0, 0);
        net.carry(0, 0);
        for (int k = 0; k < 2; k++) {
            net.serve(0, false);
            net.serve(0, true);
            check.due("held again", net.count(1, 2), 1);
            check.due("not back by the line it came by", net.channel(0, 1, 3), 0);
        }
        net.serve(1, true);
        check.due("by the other line", net.channel(1, 0, 3), 1);
        check.due("held no more", net.count(1, 2), 0);
    }

    private static void theHighestPriorityThenTheOldest() {
        Net net = Scenes.pair();
        String[] priorities = {"KK", "GG", "FF", "DD", "SS", "SS", "DD", "FF", "GG", "KK"};
        Texts.write(net, Scenes.TO_B);
        for (int k = 0; k < priorities.length; k++) {
            net.put(0, Texts.word(priorities[k] + "\nE", 0));
            net.put(7, Texts.word("AAA" + (char) ('A' + k), 0));
            net.file(0, Scenes.TO_B.length());
        }
        String order = "EFDGCHBIAJ";
        for (int k = 0; k < order.length(); k++) {
            dueChannel("in the queue", net, 0, 0, Math.max(2 - k, 0), Math.min(Math.max(4 - k, 0), 2),
                    Math.min(Math.max(6 - k, 0), 2), Math.min(Math.max(8 - k, 0), 2), Math.min(10 - k, 2));
            net.send(0, 0);
            net.carry(0, 0);
            check.due("sent as " + (k + 1), net.read(1, k, 10), order.charAt(k));
        }
    }

    private static void theFirstSerialIs001() {
        Net net = Scenes.pairWith(1);
        check.due("the next serial", net.channel(0, 0, 7), 1);
        check.due("the expected one", net.channel(0, 0, 8), 1);
        check.due("the first serial", net.send(0, 0), 1);
        check.due("the next serial", net.channel(0, 0, 7), 2);
        check.due("the expected one", net.channel(0, 0, 8), 1);
        check.due("it is taken", net.carry(0, 0), 1);
        check.due("the expected one", net.channel(0, 0, 8), 2);
        check.due("of the other channel", net.channel(0, 1, 7), 1);
    }

    /** 512 calls can't use 999 serials up: two for each, and one message goes round three switches. */
    private static void behind999Comes001() {
        Net net = Net.beyondThePromise();
        for (int l = 0; l < 3; l++) {
            net.line(l, l, (l + 1) % 3);
            Texts.route(net, l, "A", l, -1);
        }
        Texts.write(net, Texts.simple("SS", "AAAAAAAA"));
        net.file(0, 32);
        for (int round = 0; round < 997; round++) {
            for (int l = 0; l < 3; l++) {
                check.due("send", net.send(l, 0), round + 1);
                check.due("carry", net.carry(l, 0), 1);
                check.due("acknowledgement", net.carry(l, 1), 4);
            }
        }
        for (int k = 0; k < 3; k++) {
            net.file(0, 32);
        }
        send(net, 0, 998, 999);
        check.due("the next serial", net.channel(0, 0, 7), 1);
        send(net, 0, 1, 2);
        net.carry(0, 0);
        net.disturb(0, 0, 1);
        check.due("999 is taken", net.carry(0, 0), 1);
        check.due("the expected one", net.channel(0, 0, 8), 1);
        check.due("999 is there again", net.carry(0, 0), 3);
        loseFirst(net, 0, 1);
        check.due("2 is early", net.carry(0, 0), 2);
        loseFirst(net, 1, 2);
        check.due("999 is acknowledged again", net.carry(0, 1), 4);
        check.due("which frees 998 and 999", net.channel(0, 0, 5), 2);
        check.due("1 is requested", net.carry(0, 1), 5);
        carryAll("1 and 2", net, 0, 1, 1);
        carryAll("1 and 2", net, 1, 4, 4);
        dueChannel("behind them", net, 0, 0, 0, 0, 0, 0, 0, 0, 0, 3, 3);
    }

    private static void atMost20AreKept() {
        Net net = Scenes.pairWith(22);
        send(net, 0, 1, 19);
        check.due("19 are kept", net.channel(0, 0, 5), 19);
        check.due("the 20th", net.send(0, 0), 20);
        check.due("the 21st", net.send(0, 0), 0);
        dueChannel("20 are kept", net, 0, 0, 0, 0, 0, 2, 0, 20, 20, 21, 1);
        net.carry(0, 0);
        check.due("taken, but not acknowledged", net.send(0, 0), 0);
        net.carry(0, 1);
        check.due("acknowledged", net.send(0, 0), 21);
        check.due("20 again", net.send(0, 0), 0);
        check.due("kept", net.channel(0, 0, 5), 20);
        Texts.file(net, 1, Texts.simple("SS", "EAAAAAAA"));
        check.due("the other channel keeps none", net.send(0, 1), 1);
    }

    private static void theExpectedIsTaken() {
        Net net = Scenes.pairWithSent(2, 2);
        carryAll("in order", net, 0, 1, 1);
        check.due("expected", net.channel(0, 0, 8), 3);
        check.due("delivered", net.delivered(1), 2);
        carryAll("an acknowledgement of each", net, 1, 4, 4);
        check.due("kept", net.channel(0, 0, 5), 0);
    }

    /** 20 being kept, no frame can be farther behind the expected one. */
    private static void earlyByOneAndBy19() {
        for (int behind : new int[] {1, 2, 19}) {
            Net net = Scenes.pairWithSent(20, behind + 1);
            loseFirst(net, 0, behind);
            check.due("early by " + behind, net.carry(0, 0), 2);
            check.due("expected stays", net.channel(0, 0, 8), 1);
            check.due("not delivered", net.delivered(1), 0);
            check.due("a request of the expected one", net.carry(0, 1), 5);
            check.due("all are put again", net.channel(0, 0, 6), behind + 1);
            for (int k = 0; k <= behind; k++) {
                check.due("and taken", net.carry(0, 0), 1);
            }
        }
    }

    /** The oldest that is kept may be the one ahead of the expected one, or 20 ahead of it. */
    private static void againByOneAndBy20() {
        for (int ahead : new int[] {1, 2, 20}) {
            Net net = Scenes.pairWithSent(20, ahead);
            for (int k = 0; k < ahead; k++) {
                net.carry(0, 0);
            }
            loseFirst(net, 1, ahead);
            check.due("the first one is put again", net.time(5), 1);
            check.due("again by " + ahead, net.carry(0, 0), 3);
            check.due("expected stays", net.channel(0, 0, 8), ahead + 1);
            check.due("not delivered again", net.delivered(1), ahead);
            check.due("nor double", net.count(1, 1), 0);
            check.due("kept", net.channel(0, 0, 5), ahead);
            carryAll("the one ahead of the expected one is acknowledged", net, 1, 4);
            check.due("kept no more", net.channel(0, 0, 5), 0);
        }
    }

    private static void aRequestIn3Minutes() {
        int[] minutes = {0, 1, 2, 3, 4, 1000};
        for (int n : minutes) {
            Net net = Scenes.pairWithSent(3, 3);
            loseFirst(net, 0, 1);
            check.due("2 is early", net.carry(0, 0), 2);
            check.due("the first request", net.channel(0, 1, 6), 1);
            net.time(n);
            check.due("3 is early", net.carry(0, 0), 2);
            check.due("a request " + n + " minutes later", net.channel(0, 1, 6), n < 3 ? 1 : 2);
        }
        Net net = Scenes.pairWithSent(5, 5);
        loseFirst(net, 0, 1);
        net.carry(0, 0);
        for (int k = 0; k < 3; k++) {
            net.time(2);
            net.carry(0, 0);
            check.due("one that was not put does not count", net.channel(0, 1, 6), k < 1 ? 1 : 2);
        }
    }

    /** The document says "unless one was put there", whichever serial it was for. */
    private static void aRequestOfAnotherSerial() {
        for (int minutes = 2; minutes <= 3; minutes++) {
            Net net = Scenes.pairWithSent(3, 3);
            loseFirst(net, 0, 1);
            check.due("2 is early", net.carry(0, 0), 2);
            check.due("1 is requested", net.carry(0, 1), 5);
            loseFirst(net, 0, 1);
            check.due("1 is taken", net.carry(0, 0), 1);
            check.due("its acknowledgement", net.carry(0, 1), 4);
            loseFirst(net, 0, 1);
            net.time(minutes);
            check.due("3 is early", net.carry(0, 0), 2);
            check.due("a request " + minutes + " minutes later", net.channel(0, 1, 6), minutes == 3 ? 1 : 0);
        }
    }

    /** It was put there, though the wire has lost it since. */
    private static void aRequestThatWasCut() {
        for (int minutes = 2; minutes <= 3; minutes++) {
            Net net = Scenes.pairWithSent(3, 2);
            loseFirst(net, 0, 1);
            check.due("2 is early", net.carry(0, 0), 2);
            net.serve(0, false);
            net.serve(0, true);
            net.time(minutes);
            send(net, 0, 3, 3);
            check.due("3 is early", net.carry(0, 0), 2);
            check.due("a request " + minutes + " minutes later", net.channel(0, 1, 6), minutes == 3 ? 1 : 0);
        }
    }

    private static void aRequestOfEachChannel() {
        Net net = Scenes.pairWithSent(2, 2);
        Texts.write(net, Texts.simple("SS", "EAAAAAAA"));
        for (int k = 1; k <= 2; k++) {
            net.file(1, 32);
            net.send(0, 1);
        }
        loseFirst(net, 0, 1);
        loseFirst(net, 1, 1);
        check.due("early to 1", net.carry(0, 0), 2);
        check.due("early to 0", net.carry(0, 1), 2);
        check.due("a request from 1", net.channel(0, 1, 6), 1);
        check.due("a request from 0", net.channel(0, 0, 6), 1);
        check.due("of channel 0", net.carry(0, 1), 5);
        check.due("puts its two again", net.channel(0, 0, 6), 3);
    }

    private static void anAcknowledgementFreesUpToItsSerial() {
        for (int serial = 1; serial <= 4; serial++) {
            Net net = Scenes.pairWithSent(4, 4);
            for (int k = 0; k < 4; k++) {
                net.carry(0, 0);
            }
            loseFirst(net, 1, serial - 1);
            check.due("the acknowledgement of " + serial, net.carry(0, 1), 4);
            check.due("kept behind it", net.channel(0, 0, 5), 4 - serial);
        }
    }

    /** It was freed by an earlier one, with or without something behind it. */
    private static void anAcknowledgementOfWhatIsNotKept() {
        for (int behind = 0; behind < 2; behind++) {
            Net net = Scenes.pairWithSent(2, 1 + behind);
            net.carry(0, 0);
            net.disturb(0, 1, 1);
            carryAll("the acknowledgement of 1, twice", net, 1, 4, 4);
            check.due("the second one frees nothing", net.channel(0, 0, 5), behind);
        }
    }

    private static void aRequestPutsFromItsSerialOn() {
        for (int serial = 1; serial <= 4; serial++) {
            Net net = Scenes.pairWithSent(5, 5);
            for (int k = 1; k < serial; k++) {
                net.carry(0, 0);
            }
            loseFirst(net, 0, 1);
            check.due("early", net.carry(0, 0), 2);
            loseFirst(net, 0, net.channel(0, 0, 6));
            loseFirst(net, 1, serial - 1);
            check.due("the request of " + serial, net.carry(0, 1), 5);
            check.due("frames", net.channel(0, 0, 6), 6 - serial);
            check.due("it frees none", net.channel(0, 0, 5), 5);
            for (int k = serial; k <= 5; k++) {
                check.due("taken in order", net.carry(0, 0), 1);
            }
        }
    }

    private static void fiveMinutesWithoutAMessageFrame() {
        for (int minutes : new int[] {0, 1, 4, 5, 6, 1000}) {
            Net net = Scenes.pairWith(2);
            net.time(1000);
            net.send(0, 0);
            check.due("time(" + minutes + ") behind a send", net.time(minutes), minutes < 5 ? 0 : 1);
            check.due("frames", net.channel(0, 0, 6), minutes < 5 ? 1 : 2);
        }
        Net net = Scenes.pairWith(2);
        net.send(0, 0);
        net.time(4);
        net.send(0, 0);
        check.due("1 minute behind the last send", net.time(1), 0);
        check.due("4 minutes", net.time(3), 0);
        check.due("5 minutes", net.time(1), 1);
        check.due("4 minutes behind what was put again", net.time(4), 0);
        check.due("5 minutes", net.time(1), 1);
        check.due("at once only one", net.time(10), 1);
    }

    private static void fiveMinutesBehindARequest() {
        Net net = Scenes.pairWithSent(2, 2);
        loseFirst(net, 0, 1);
        net.carry(0, 0);
        net.time(4);
        check.due("the request", net.carry(0, 1), 5);
        check.due("4 minutes behind it", net.time(4), 0);
        check.due("5 minutes", net.time(1), 1);
    }

    /** With 20 kept, and with nothing in the queue. */
    private static void aSendOfNothingPutsNoFrame() {
        for (int messages = 20; messages <= 21; messages++) {
            Net net = Scenes.pairWithSent(messages, 20);
            net.time(4);
            check.due("send of nothing", net.send(0, 0), 0);
            check.due("5 minutes behind the last frame", net.time(1), 1);
        }
        Net net = Scenes.pairWithSent(1, 1);
        net.time(4);
        check.due("send of nothing", net.send(0, 0), 0);
        check.due("5 minutes behind the last frame", net.time(1), 1);
    }

    /** Its being cut and in service again is no frame, and the frame that was lost still was put. */
    private static void aLineThatIsCutPutsNoFrame() {
        Net net = Scenes.pairWithSent(1, 1);
        net.time(2);
        net.serve(0, false);
        net.time(1);
        net.serve(0, true);
        check.due("4 minutes behind the last frame", net.time(1), 0);
        check.due("5 minutes", net.time(1), 1);
    }

    private static void onlyTheOldestIsPutAgain() {
        Net net = Scenes.pairWithSent(3, 3);
        carryAll("three", net, 0, 1, 1, 1);
        check.due("the acknowledgement of 1", net.carry(0, 1), 4);
        loseFirst(net, 1, 2);
        check.due("2 is put again", net.time(5), 1);
        check.due("one frame", net.channel(0, 0, 6), 1);
        check.due("again", net.carry(0, 0), 3);
        check.due("3 is acknowledged", net.carry(0, 1), 4);
        check.due("nothing is kept", net.time(1000), 0);
        Net lost = Scenes.pairWithSent(3, 3);
        loseFirst(lost, 0, 3);
        lost.time(5);
        carryAll("the oldest is the expected one", lost, 0, 1);
    }

    private static void aCutLineLosesItsWires() {
        Net net = Scenes.pairWithSent(5, 4);
        net.carry(0, 0);
        net.carry(0, 0);
        net.carry(0, 1);
        dueChannel("ahead", net, 0, 0, 0, 0, 0, 1, 0, 3, 2, 5, 3);
        net.serve(0, false);
        dueChannel("queue, kept and expected stay", net, 0, 0, 0, 0, 0, 1, 0, 3, 0, 5, 3);
        check.due("both wires are lost", net.channel(0, 1, 6), 0);
        net.serve(0, true);
        dueChannel("in service again", net, 0, 0, 0, 0, 0, 1, 0, 3, 0, 5, 3);
        check.due("the next serial", net.send(0, 0), 5);
    }

    private static void aCutLineIsNotReminded() {
        Net net = Scenes.pairWithSent(1, 1);
        net.serve(0, false);
        check.due("a cut line", net.time(1000), 0);
        net.serve(0, true);
        check.due("frames", net.channel(0, 0, 6), 0);
        check.due("in service again", net.time(1), 1);
        check.due("frames", net.channel(0, 0, 6), 1);
    }

    private static void atMost200AreFiled() {
        Net net = Scenes.pairWith(198);
        int length = Scenes.TO_B.length();
        check.due("a fault is not filed", net.file(0, length - 1), -1 - 10 * (length - 1) - 6);
        check.due("the 199th", net.file(5, length), 199);
        check.due("the 200th", net.file(0, length), 200);
        check.refusesState("the 201st", () -> net.file(0, length));
        check.due("filed", net.count(-1, 4), 200);
        check.due("in the queue", net.channel(0, 0, 3), 199);
        check.due("arrived(200, 0)", net.arrived(200, 0), false);
        check.refusesArgument("arrived(201, 0)", () -> net.arrived(201, 0));
        send(net, 0, 1, 1);
        check.due("the net goes on", net.carry(0, 0), 1);
    }

    /** 199 and one more are there; then one is lost, but kept, and the minute counts. */
    private static void aFullWireLosesASentFrame() {
        Net net = Scenes.fullWire(3);
        loseFirst(net, 0, 1);
        check.due("the 200th", net.send(0, 0), 2);
        check.due("frames", net.channel(0, 0, 6), 200);
        net.time(3);
        check.due("the 201st", net.send(0, 0), 3);
        dueChannel("it is lost", net, 0, 0, 0, 0, 0, 0, 0, 3, 200, 4, 1);
        check.due("5 minutes behind the one ahead", net.time(2), 0);
        check.due("5 minutes behind the lost one", net.time(3), 1);
        check.due("taken", net.carry(0, 0), 1);
        for (int k = 0; k < 198; k++) {
            check.due("again", net.carry(0, 0), 3);
        }
        check.due("the 200th", net.carry(0, 0), 1);
        check.due("the 201st never comes", net.carry(0, 0), 0);
    }

    private static void aFullWireLosesAnAcknowledgement() {
        Net net = Scenes.pairWithSent(3, 3);
        net.carry(0, 0);
        Scenes.fill(net, 0, 1);
        check.due("2 is taken", net.carry(0, 0), 1);
        check.due("its acknowledgement is lost", net.channel(0, 1, 6), 200);
        net.carry(0, 1);
        check.due("3 is taken", net.carry(0, 0), 1);
        check.due("its acknowledgement is the 200th", net.channel(0, 1, 6), 200);
        for (int k = 0; k < 199; k++) {
            net.carry(0, 1);
        }
        check.due("1 is freed", net.channel(0, 0, 5), 2);
        check.due("3", net.carry(0, 1), 4);
        check.due("2 and 3 are freed", net.channel(0, 0, 5), 0);
        check.due("no more", net.carry(0, 1), 0);
    }

    private static void aFullWireLosesARequest() {
        Net net = Scenes.pairWithSent(6, 6);
        net.carry(0, 0);
        Scenes.fill(net, 0, 1);
        loseFirst(net, 0, 1);
        check.due("3 is early", net.carry(0, 0), 2);
        check.due("its request is lost", net.channel(0, 1, 6), 200);
        net.carry(0, 1);
        net.time(2);
        check.due("4 is early", net.carry(0, 0), 2);
        check.due("a lost request counts as put", net.channel(0, 1, 6), 199);
        net.time(1);
        check.due("5 is early", net.carry(0, 0), 2);
        check.due("3 minutes behind the lost one", net.channel(0, 1, 6), 200);
        loseFirst(net, 1, 199);
        check.due("it is a request", net.carry(0, 1), 5);
    }

    /** Frames 2 to 4 are requested, but there is room for two. */
    private static void aFullWireLosesWhatIsRequested() {
        Net net = Scenes.pairWithSent(4, 4);
        net.carry(0, 0);
        net.carry(0, 1);
        loseFirst(net, 0, 1);
        check.due("3 is early", net.carry(0, 0), 2);
        Scenes.fill(net, 0, 0);
        loseFirst(net, 0, 2);
        net.time(4);
        check.due("the request of 2", net.carry(0, 1), 5);
        check.due("frames", net.channel(0, 0, 6), 200);
        check.due("kept", net.channel(0, 0, 5), 3);
        check.due("they were put", net.time(4), 0);
        loseFirst(net, 0, 198);
        carryAll("2 and 3, but not 4", net, 0, 1, 1);
    }

    private static void aFullWireLosesWhatIsPutAgain() {
        Net net = Scenes.fullWire(1);
        loseFirst(net, 0, 1);
        check.due("the 200th", net.time(5), 1);
        check.due("frames", net.channel(0, 0, 6), 200);
        check.due("the 201st is lost, but counts", net.time(5), 1);
        check.due("frames", net.channel(0, 0, 6), 200);
        check.due("4 minutes behind it", net.time(4), 0);
        check.due("5 minutes", net.time(1), 1);
    }
}
