/** Promises 4 and 5: the text that is to be filed, and the judgement of its form. */
public final class FormTest {
    private static final Check check = new Check();
    private static final String HEAD = "SS\nEBBBBBBB\n" + Texts.ORIGIN;
    private static final int BODY = HEAD.length();

    public static void main(String[] args) {
        priorities();
        everyPairOfLetters();
        everyByteBehindThePriority();
        addresses();
        oneToSevenAddresses();
        eightLetters();
        everyByteBehindAnAddress();
        anAddressThatWasThereAhead();
        atMostSeven();
        origin();
        everyDayHourAndMinute();
        everyByteOfTheOrigin();
        signs();
        oneTo69Signs();
        lines();
        upTo20Lines();
        everyByteBehind20Lines();
        closing();
        closingBehindLines();
        everyCut();
        theFirstFaultCounts();
        shortestAndLongest();
        put();
        fourBytesOfAPut();
        putAtTheEnd();
        fileRefuses();
        check.end();
    }

    private static void good(String text) {
        check.due("file of " + shown(text), Texts.file(new Net(), 0, text), 1);
    }

    private static void fault(String text, int place, int rule) {
        Net net = new Net();
        check.due("file of " + shown(text), Texts.file(net, 3, text), -1 - 10 * place - rule);
        check.due("filed after a fault", net.count(-1, 4), 0);
        check.due("unknown after a fault", net.count(3, 0), 0);
    }

    private static String shown(String text) {
        return text.replace("\n", "\\n");
    }

    private static void priorities() {
        for (String priority : new String[] {"SS", "DD", "FF", "GG", "KK"}) {
            good(Texts.simple(priority, "EAAAAAAA"));
        }
        fault("", 0, 1);
        fault("S", 1, 1);
        fault("SS", 2, 1);
        fault("SD\n", 0, 1);
        fault("KS\n", 0, 1);
        fault("AA\n", 0, 1);
        fault("ss\n", 0, 1);
        fault("X", 0, 1);
        fault("\n", 0, 1);
        fault("\u00d3S\n", 0, 1);
        fault("SSS", 2, 1);
        fault("SS \n", 2, 1);
    }

    /** With a good pair the text goes on, and ends too early. */
    private static void everyPairOfLetters() {
        for (char a = 'A'; a <= 'Z'; a++) {
            for (char b = 'A'; b <= 'Z'; b++) {
                boolean isGood = a == b && "SDFGK".indexOf(a) >= 0;
                fault("" + a + b + "\n", isGood ? 3 : 0, isGood ? 2 : 1);
            }
        }
    }

    private static void everyByteBehindThePriority() {
        for (int b = 0; b < 256; b++) {
            if ("SDFGK".indexOf(b) < 0) {
                fault((char) b + "S\nEAAAAAAA\n", 0, 1);
            }
            if (b != '\n') {
                fault("KK" + (char) b + "EAAAAAAA\n", 2, 1);
            }
        }
    }

    private static void addresses() {
        fault("SS\n", 3, 2);
        fault("SS\n\n", 3, 2);
        fault("SS\n EAAAAAAA\n", 3, 2);
        fault("SS\nEAAAAAA", 10, 2);
        fault("SS\nEAAAAAAA", 11, 2);
        fault("SS\nEAAAAAA\n", 10, 2);
        fault("SS\nEAAAAAAAA\n", 11, 2);
        fault("SS\nEAAA1AAA\n", 7, 2);
        fault("SS\nEAAAaAAA\n", 7, 2);
        fault("SS\nEAAA@AAA\n", 7, 2);
        fault("SS\nEAAA[AAA\n", 7, 2);
        fault("SS\nEAAAAAAA ", 12, 2);
        fault("SS\nEAAAAAAA \n", 12, 2);
        fault("SS\nEAAAAAAA  EBAAAAAA\n", 12, 2);
        fault("SS\nEAAAAAAA EAAAAAAA\n", 12, 3);
        fault("SS\nEAAAAAAA EAAAAAAA", 12, 3);
        fault("SS\nEAAAAAAA EAAAAAA", 19, 2);
        fault("SS\nEAAAAAAA EAAAAAA1", 19, 2);
        fault("SS\nEAAAAAAA EAAAAAAB EAAAAAAA\n", 21, 3);
        good(Texts.simple("FF", "ABCDEFGH", "ABCDEFGI", "ZBCDEFGH"));
        String seven = "SS\nA_______ B_______ C_______ D_______ E_______ F_______ G_______".replace('_', 'X');
        good(seven + "\n" + Texts.ORIGIN + "NNNN");
        fault(seven, 65, 2);
        fault(seven + " ", 65, 4);
        fault(seven + " \n", 65, 4);
        fault(seven + " HXXXXXXX\n", 65, 4);
        fault(seven + "X\n", 65, 2);
        fault(seven.replace('G', 'A') + " ", 57, 3);
    }

    private static String addresses(int number) {
        return "AXXXXXXX BXXXXXXX CXXXXXXX DXXXXXXX EXXXXXXX FXXXXXXX GXXXXXXX HXXXXXXX".substring(0, 9 * number - 1);
    }

    private static void oneToSevenAddresses() {
        fault("SS\n\n" + Texts.ORIGIN + "NNNN", 3, 2);
        for (int n = 1; n <= 7; n++) {
            good("SS\n" + addresses(n) + "\n" + Texts.ORIGIN + "NNNN");
        }
        fault("SS\n" + addresses(8) + "\n" + Texts.ORIGIN + "NNNN", 65, 4);
    }

    /** At each place of the first and of the seventh address, each byte that is no letter. */
    private static void eightLetters() {
        for (int place = 0; place < 8; place++) {
            for (int b = 0; b < 256; b++) {
                if (b >= 'A' && b <= 'Z') {
                    continue;
                }
                for (int start : new int[] {3, 57}) {
                    StringBuilder text = new StringBuilder("SS\n" + addresses(7) + "\n");
                    text.setCharAt(start + place, (char) b);
                    fault(text.toString(), start + place, 2);
                }
            }
        }
        good(Texts.simple("SS", "AZAZAZAZ", "ZAZAZAZA"));
        fault("SS\nAAAAAAA\n", 10, 2);
        fault("SS\nAAAAAAAAA\n", 11, 2);
    }

    private static void everyByteBehindAnAddress() {
        for (int b = 0; b < 256; b++) {
            if (b != ' ' && b != '\n') {
                fault("SS\nEAAAAAAA" + (char) b + "EBAAAAAA\n", 11, 2);
                fault("SS\n" + addresses(7) + (char) b + "\n", 65, 2);
            }
        }
        fault("SS\nEAAAAAAA\n", 12, 5);
        fault("SS\nEAAAAAAA ", 12, 2);
    }

    /** Each one as each one ahead of it; with seven letters it is not there yet. */
    private static void anAddressThatWasThereAhead() {
        for (int later = 1; later < 7; later++) {
            int start = 3 + 9 * later;
            for (int ahead = 0; ahead < later; ahead++) {
                String again = "SS\n" + addresses(later) + " " + (char) ('A' + ahead) + "XXXXXXX";
                fault(again, start, 3);
                fault(again + "\n" + Texts.ORIGIN + "NNNN", start, 3);
                fault(again + " ", start, 3);
                fault(again + "x", start, 3);
                fault(again.substring(0, start + 7), start + 7, 2);
                fault(again.substring(0, start + 7) + "x", start + 7, 2);
                good(again.substring(0, start + 7) + "Y\n" + Texts.ORIGIN + "NNNN");
            }
        }
    }

    /** The blank behind the seventh tells it, whatever comes behind, also one that was there ahead. */
    private static void atMostSeven() {
        String seven = "SS\n" + addresses(7);
        fault(seven, 65, 2);
        fault(seven + " ", 65, 4);
        fault(seven + " AXXXXXXX\n", 65, 4);
        fault(seven + " x", 65, 4);
        fault(seven + "x", 65, 2);
        fault("SS\n" + addresses(6) + " AXXXXXXX HXXXXXXX\n", 57, 3);
        fault("SS\n" + addresses(6) + " ", 57, 2);
    }

    private static void origin() {
        String head = "SS\nEBBBBBBB\n";
        for (String origin : new String[] {"010000", "312359", "100909", "290030", "301959"}) {
            good(head + origin + " EAAAAAAA\nNNNN");
        }
        fault(head, 12, 5);
        fault(head + "0", 13, 5);
        fault(head + "9", 13, 5);
        fault(head + "00", 12, 5);
        fault(head + "32", 12, 5);
        fault(head + "3x", 13, 5);
        fault(head + "x1", 12, 5);
        fault(head + "9:", 13, 5);
        fault(head + "/1", 12, 5);
        fault(head + "01", 14, 5);
        fault(head + "0124", 14, 5);
        fault(head + "012", 15, 5);
        fault(head + "012A", 15, 5);
        fault(head + "0123", 16, 5);
        fault(head + "012360", 16, 5);
        fault(head + "01235 ", 17, 5);
        fault(head + "012359", 18, 5);
        fault(head + "0123590", 18, 5);
        fault(head + "012359\n", 18, 5);
        fault(head + "012359 ", 19, 5);
        fault(head + "012359 EAAA AAA\n", 23, 5);
        fault(head + "012359 EAAAAAA\n", 26, 5);
        fault(head + "012359 EAAAAAAA", 27, 5);
        fault(head + "012359 EAAAAAAA ", 27, 5);
        fault(head + "012359 EAAAAAAAA\n", 27, 5);
    }

    private static void everyDayHourAndMinute() {
        String head = "SS\nEBBBBBBB\n";
        for (int n = 0; n < 100; n++) {
            String two = "" + n / 10 + n % 10;
            String behind = " EAAAAAAA\nNNNN";
            judge(head + two + "0000" + behind, n >= 1 && n <= 31, 12);
            judge(head + "01" + two + "00" + behind, n <= 23, 14);
            judge(head + "0100" + two + behind, n <= 59, 16);
        }
    }

    private static void judge(String text, boolean isGood, int place) {
        if (isGood) {
            good(text);
        } else {
            fault(text, place, 5);
        }
    }

    /** At each of its 16 places, each byte that is not as it should be. */
    private static void everyByteOfTheOrigin() {
        for (int place = 0; place < 16; place++) {
            for (int b = 0; b < 256; b++) {
                boolean isDue = place < 6 ? b >= '0' && b <= '9' : place == 6 ? b == ' '
                        : place < 15 ? b >= 'A' && b <= 'Z' : b == '\n';
                if (!isDue) {
                    StringBuilder text = new StringBuilder(HEAD + "NNNN");
                    text.setCharAt(BODY - 16 + place, (char) b);
                    fault(text.toString(), BODY - 16 + place, 5);
                }
            }
        }
    }

    private static void signs() {
        String signs = "ABCDEFGHIJKLMNOPQRSTUVWXYZ0123456789 -?:().,'/+=";
        good(HEAD + signs + "\nNNNN");
        for (int b = 0; b < 256; b++) {
            String line = "A" + (char) b + "A\nNNNN";
            if (signs.indexOf(b) >= 0) {
                good(HEAD + line);
                good(HEAD + (char) b + "\nNNNN");
            } else if (b != 10) {
                fault(HEAD + line, BODY + 1, 6);
                fault(HEAD + (char) b, BODY, 6);
            }
        }
        fault(HEAD, BODY, 6);
        fault(HEAD + "\nNNNN", BODY, 6);
        fault(HEAD + "A\n\nNNNN", BODY + 2, 6);
        fault(HEAD + "A", BODY + 1, 6);
        fault(HEAD + "A\n", BODY + 2, 6);
        fault(HEAD + "NNN", BODY + 3, 6);
        fault(HEAD + "NNN\n", BODY + 4, 6);
        good(HEAD + "A".repeat(69) + "\nNNNN");
        fault(HEAD + "A".repeat(69), BODY + 69, 6);
        fault(HEAD + "A".repeat(70), BODY + 69, 6);
        fault(HEAD + "A".repeat(70) + "\nNNNN", BODY + 69, 6);
        fault(HEAD + "A".repeat(69) + "a", BODY + 69, 6);
        fault(HEAD + "a".repeat(70), BODY, 6);
    }

    private static void oneTo69Signs() {
        fault(HEAD + "\nNNNN", BODY, 6);
        for (int n = 1; n <= 72; n++) {
            String line = "N.".repeat(36).substring(0, n) + "\nNNNN";
            if (n <= 69) {
                good(HEAD + line);
            } else {
                fault(HEAD + line, BODY + 69, 6);
            }
        }
        good(HEAD + " ".repeat(69) + "\n" + "=".repeat(69) + "\nNNNN");
        fault(HEAD + "A\n" + "B".repeat(70) + "\nNNNN", BODY + 2 + 69, 6);
        good(HEAD + "N".repeat(69) + "\nNNNN");
        fault(HEAD + "N".repeat(70) + "\nNNNN", BODY + 69, 6);
    }

    private static void lines() {
        String twenty = HEAD + "A\n".repeat(20);
        good(twenty + "NNNN");
        good(HEAD + ("B".repeat(69) + "\n").repeat(20) + "NNNN");
        fault(twenty, BODY + 40, 7);
        fault(twenty + "A", BODY + 40, 7);
        fault(twenty + "A\nNNNN", BODY + 40, 7);
        fault(twenty + "\n", BODY + 40, 7);
        fault(twenty + "NNN", BODY + 40, 7);
        fault(twenty + "NNNNN", BODY + 40, 7);
        fault(twenty + "NNNN ", BODY + 40, 7);
        fault(twenty + "NNNNa", BODY + 40, 7);
        fault(twenty + "NNNN\n", BODY + 44, 8);
        fault(HEAD + "A\n".repeat(19), BODY + 38, 6);
        good(HEAD + "A\n".repeat(19) + "NNNN");
    }

    private static void upTo20Lines() {
        for (int n = 0; n <= 22; n++) {
            String text = HEAD + "AB\n".repeat(n);
            if (n <= 20) {
                good(text + "NNNN");
                fault(text + "NNNN\n", BODY + 3 * n + 4, 8);
            } else {
                fault(text + "NNNN", BODY + 60, 7);
                fault(text + "NNNN\n", BODY + 60, 7);
            }
            fault(text, BODY + 3 * Math.min(n, 20), n < 20 ? 6 : 7);
        }
    }

    /** Of what stands where the 21st line would, only NNNN with nothing behind it is good. */
    private static void everyByteBehind20Lines() {
        String text = HEAD + "A\n".repeat(20);
        int place = BODY + 40;
        good(text + "NNNN");
        for (int n = 0; n < 4; n++) {
            fault(text + "NNNN".substring(n + 1), place, 7);
        }
        for (int b = 0; b < 256; b++) {
            boolean isNewline = b == '\n';
            fault(text + (char) b, place, 7);
            fault(text + "NNNN" + (char) b, isNewline ? place + 4 : place, isNewline ? 8 : 7);
        }
    }

    private static void closing() {
        good(HEAD + "NNNN");
        fault(HEAD + "NNNN\n", BODY + 4, 8);
        fault(HEAD + "NNNN\nNNNN", BODY + 4, 8);
        fault(HEAD + "A\nNNNN\n", BODY + 6, 8);
        good(HEAD + "NNNNN\nNNNN");
        good(HEAD + "NNNN \nNNNN");
        good(HEAD + " NNNN\nNNNN");
        good(HEAD + "NNNN.\nNNNN");
        fault(HEAD + "NNNNa", BODY + 4, 6);
        fault(HEAD + "NNNNN", BODY + 5, 6);
        for (String other : new String[] {"ANNN", "NANN", "NNAN", "NNNA"}) {
            good(HEAD + other + "\nNNNN");
            fault(HEAD + other, BODY + 4, 6);
        }
    }

    /** Ahead of each line, NNNN and a newline end the text; with any other byte behind it is a line. */
    private static void closingBehindLines() {
        for (int n = 0; n < 20; n++) {
            String text = HEAD + "A\n".repeat(n);
            int place = BODY + 2 * n + 4;
            fault(text + "NNNN\n", place, 8);
            fault(text + "NNNN\nA\nNNNN", place, 8);
            fault(text + "NNNN\n\0", place, 8);
            fault(text + "NNNN\0", place, 6);
            fault(text + "NNNNA", place + 1, 6);
            good(text + "NNNNA\nNNNN");
            good(text + "NNNN \nNNNN");
            good(text + "ANNNN\nNNNN");
            good(text + "NNN\nNNNN");
        }
    }

    /** A text that ends too early has its fault at its length, whatever stands behind it. */
    private static void everyCut() {
        String text = Texts.simple("KK", "EAAAAAAA", "EBAAAAAA").replace("NNNN", "A B\nNNNN");
        Net net = new Net();
        Texts.write(net, text);
        int origin = text.indexOf(Texts.ORIGIN);
        for (int n = 0; n < text.length(); n++) {
            int rule = n < 3 ? 1 : n < origin ? 2 : n < origin + Texts.ORIGIN.length() ? 5 : 6;
            check.due("file of the first " + n, net.file(0, n), -1 - 10 * n - rule);
        }
        check.due("file of all", net.file(0, text.length()), 1);
    }

    /** Each text has several faults; the one that is read first is told. */
    private static void theFirstFaultCounts() {
        fault("XX EA1 EA1\n990000", 0, 1);
        fault("SSxEA1\n", 2, 1);
        fault("SS\nEA1AAAAA EA1AAAAA\n", 5, 2);
        fault("SS\nEAAAAAAA EAAAAAAA1\n320000", 12, 3);
        fault("SS\nEAAAAAAA\n322460 eAAAAAAA", 12, 5);
        fault("SS\nEAAAAAAA\n012460xEAAAAAAA", 14, 5);
        fault("SS\nEAAAAAAA\n012360x", 16, 5);
        fault("SS\nEAAAAAAA\n012359xeAAAAAAA", 18, 5);
        fault(HEAD + "AB_CD_\n\n", BODY + 2, 6);
        fault(HEAD + "A".repeat(69) + "_" + "A".repeat(70), BODY + 69, 6);
        fault(HEAD + "A".repeat(30) + "_" + "A".repeat(70), BODY + 30, 6);
        fault(HEAD + "NNNN\n_", BODY + 4, 8);
        fault(HEAD + "A\n".repeat(19) + "_\nA\nA\n", BODY + 38, 6);
        fault(HEAD + "A\n".repeat(20) + "_\nA\nA\n", BODY + 40, 7);
    }

    private static void shortestAndLongest() {
        good(HEAD + "NNNN");
        String longest = "KK\n" + addresses(7) + "\n" + Texts.ORIGIN + ("Z".repeat(69) + "\n").repeat(20) + "NNNN";
        check.due("length of the longest text", longest.length(), 1486);
        Net net = new Net();
        Texts.route(net, 5, "G", -1, -1);
        check.due("file of the longest", Texts.file(net, 5, longest), 1);
        check.due("its seventh address", net.arrived(1, 6), true);
        check.due("its last newline", net.read(5, 0, 1481), '\n');
        check.due("its last byte", net.read(5, 0, 1485), 'N');
        check.due("behind it", net.read(5, 0, 1486), -1);
        net.put(1486, 'Z');
        check.due("one byte more", net.file(0, 1487), -1 - 10 * 1482 - 7);
        check.due("1600 bytes", net.file(0, 1600), -1 - 10 * 1482 - 7);
    }

    private static void put() {
        Net net = new Net();
        check.refusesArgument("put(-1, 0)", () -> net.put(-1, 0));
        check.refusesArgument("put(1600, 0)", () -> net.put(1600, 0));
        check.refusesArgument("put(least, 0)", () -> net.put(Integer.MIN_VALUE, 0));
        check.refusesArgument("put(most, 0)", () -> net.put(Integer.MAX_VALUE, 0));
        for (int i = 1596; i < 1600; i++) {
            net.put(i, -1);
        }
        Texts.route(net, 0, "E", -1, -1);
        String text = Texts.simple("GG", "EAAAAAAA");
        check.due("file", Texts.file(net, 0, text), 1);
        net.put(1, 0x41424344);
        check.due("file of an altered text", net.file(0, text.length()), -2);
        check.due("a filed text stays as it was", Texts.onDesk(net, 0, 0).equals(text), true);
        net.put(1, Texts.word("G\nEA", 0));
        check.due("file again", net.file(0, text.length()), 2);
        for (int i = 0; i < 3; i++) {
            net.put(text.length() - 1 + i, Texts.word("N\u0000\u0000\u0000", 0));
        }
        check.due("bytes behind the length don't count", net.file(0, text.length()), 3);
        net.put(11, Texts.word("\n010", 0));
        net.put(12, Texts.word("0100", 0));
        check.due("puts may overlap", net.file(0, text.length()), 4);
    }

    /** The lowest byte comes first, wherever that is; from the end on, so that a fifth byte would be seen. */
    private static void fourBytesOfAPut() {
        String text = Texts.simple("GG", "EAAAAAAA");
        for (int first = 0; first < 4; first++) {
            Net net = new Net();
            Texts.route(net, 0, "E", -1, -1);
            for (int i = first + 28; i >= first; i -= 4) {
                net.put(i, Texts.word(text, i));
            }
            for (int i = first - 1; i >= 0; i--) {
                net.put(i, Texts.word(text, i));
            }
            check.due("file", net.file(0, text.length()), 1);
            check.due("the text is as it was put", Texts.onDesk(net, 0, 0).equals(text), true);
        }
    }

    /** The bytes behind 1599 are left out, and change no others. */
    private static void putAtTheEnd() {
        String text = Texts.simple("GG", "EAAAAAAA");
        Net net = new Net();
        Texts.write(net, text);
        for (int i = 1590; i < 1600; i++) {
            net.put(i, 0x58595A57);
            check.due("the text stays behind put(" + i + ", ..)", net.file(0, text.length()), i - 1589);
        }
        check.refusesArgument("put(1600, ..)", () -> net.put(1600, 0x58595A57));
        check.due("the text stays behind put(1600, ..)", net.file(0, text.length()), 11);
    }

    private static void fileRefuses() {
        Net net = new Net();
        String text = Texts.simple("GG", "EAAAAAAA");
        Texts.write(net, text);
        int n = text.length();
        check.refusesArgument("file(-1, n)", () -> net.file(-1, n));
        check.refusesArgument("file(6, n)", () -> net.file(6, n));
        check.refusesArgument("file(0, -1)", () -> net.file(0, -1));
        check.refusesArgument("file(0, 1601)", () -> net.file(0, 1601));
        check.due("file(0, 1600)", net.file(0, 1600), -1 - 10 * n - 6);
        for (int k = 1; k <= 200; k++) {
            check.due("file number " + k, net.file(k % 6, n), k);
        }
        check.refusesState("file of a 201st", () -> net.file(0, n));
        check.refusesState("file of a 201st with a fault", () -> net.file(0, 0));
        check.refusesArgument("file(6, n) when 200 are filed", () -> net.file(6, n));
        check.refusesArgument("file(0, 1601) when 200 are filed", () -> net.file(0, 1601));
        check.due("messages filed", net.count(-1, 4), 200);
        check.due("unknown at 0", net.count(0, 0), 33);
    }
}
