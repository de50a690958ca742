/** Promises 4 and 5: the text that is to be filed, and the judgement of its form. */
public final class FormTest {
    private static final Check check = new Check();
    private static final String HEAD = "SS\nEBBBBBBB\n" + Texts.ORIGIN;
    private static final int BODY = HEAD.length();

    public static void main(String[] args) {
        priorities();
        addresses();
        origin();
        signs();
        lines();
        closing();
        everyCut();
        put();
        fileRefuses();
        check.end();
    }

    private static void good(String text) {
        check.due("file of " + shown(text), Texts.file(new TextNet(), 0, text), 1);
    }

    private static void fault(String text, int place, int rule) {
        TextNet net = new TextNet();
        check.due("file of " + shown(text), Texts.file(net, 3, text), -1 - 10 * place - rule);
        check.due("filed after a fault", net.count(-1, 4), 0);
        check.due("unknown after a fault", net.count(3, 0), 0);
    }

    private static String shown(String text) {
        return text.replace("\n", "\\n");
    }

    private static void priorities() {
        for (String priority : new String[] {"SS", "DD", "FF", "GG", "KK"}) {
            good(Texts.simple(priority, "EAAAAAAA"));
        }
        fault("", 0, 1);
        fault("S", 1, 1);
        fault("SS", 2, 1);
        fault("SD\n", 0, 1);
        fault("KS\n", 0, 1);
        fault("AA\n", 0, 1);
        fault("ss\n", 0, 1);
        fault("X", 0, 1);
        fault("\n", 0, 1);
        fault("\u00d3S\n", 0, 1);
        fault("SSS", 2, 1);
        fault("SS \n", 2, 1);
    }

    private static void addresses() {
        fault("SS\n", 3, 2);
        fault("SS\n\n", 3, 2);
        fault("SS\n EAAAAAAA\n", 3, 2);
        fault("SS\nEAAAAAA", 10, 2);
        fault("SS\nEAAAAAAA", 11, 2);
        fault("SS\nEAAAAAA\n", 10, 2);
        fault("SS\nEAAAAAAAA\n", 11, 2);
        fault("SS\nEAAA1AAA\n", 7, 2);
        fault("SS\nEAAAaAAA\n", 7, 2);
        fault("SS\nEAAA@AAA\n", 7, 2);
        fault("SS\nEAAA[AAA\n", 7, 2);
        fault("SS\nEAAAAAAA ", 12, 2);
        fault("SS\nEAAAAAAA \n", 12, 2);
        fault("SS\nEAAAAAAA  EBAAAAAA\n", 12, 2);
        fault("SS\nEAAAAAAA EAAAAAAA\n", 12, 3);
        fault("SS\nEAAAAAAA EAAAAAAA", 12, 3);
        fault("SS\nEAAAAAAA EAAAAAA", 19, 2);
        fault("SS\nEAAAAAAA EAAAAAA1", 19, 2);
        fault("SS\nEAAAAAAA EAAAAAAB EAAAAAAA\n", 21, 3);
        good(Texts.simple("FF", "ABCDEFGH", "ABCDEFGI", "ZBCDEFGH"));
        String seven = "SS\nA_______ B_______ C_______ D_______ E_______ F_______ G_______".replace('_', 'X');
        good(seven + "\n" + Texts.ORIGIN + "NNNN");
        fault(seven, 65, 2);
        fault(seven + " ", 65, 4);
        fault(seven + " \n", 65, 4);
        fault(seven + " HXXXXXXX\n", 65, 4);
        fault(seven + "X\n", 65, 2);
        fault(seven.replace('G', 'A') + " ", 57, 3);
    }

    private static void origin() {
        String head = "SS\nEBBBBBBB\n";
        for (String origin : new String[] {"010000", "312359", "100909", "290030", "301959"}) {
            good(head + origin + " EAAAAAAA\nNNNN");
        }
        fault(head, 12, 5);
        fault(head + "0", 13, 5);
        fault(head + "9", 13, 5);
        fault(head + "00", 12, 5);
        fault(head + "32", 12, 5);
        fault(head + "3x", 13, 5);
        fault(head + "x1", 12, 5);
        fault(head + "9:", 13, 5);
        fault(head + "/1", 12, 5);
        fault(head + "01", 14, 5);
        fault(head + "0124", 14, 5);
        fault(head + "012", 15, 5);
        fault(head + "012A", 15, 5);
        fault(head + "0123", 16, 5);
        fault(head + "012360", 16, 5);
        fault(head + "01235 ", 17, 5);
        fault(head + "012359", 18, 5);
        fault(head + "0123590", 18, 5);
        fault(head + "012359\n", 18, 5);
        fault(head + "012359 ", 19, 5);
        fault(head + "012359 EAAA AAA\n", 23, 5);
        fault(head + "012359 EAAAAAA\n", 26, 5);
        fault(head + "012359 EAAAAAAA", 27, 5);
        fault(head + "012359 EAAAAAAA ", 27, 5);
        fault(head + "012359 EAAAAAAAA\n", 27, 5);
    }

    private static void signs() {
        String signs = "ABCDEFGHIJKLMNOPQRSTUVWXYZ0123456789 -?:().,'/+=";
        good(HEAD + signs + "\nNNNN");
        for (int b = 0; b < 256; b++) {
            String line = "A" + (char) b + "A\nNNNN";
            if (signs.indexOf(b) >= 0) {
                good(HEAD + line);
                good(HEAD + (char) b + "\nNNNN");
            } else if (b != 10) {
                fault(HEAD + line, BODY + 1, 6);
                fault(HEAD + (char) b, BODY, 6);
            }
        }
        fault(HEAD, BODY, 6);
        fault(HEAD + "\nNNNN", BODY, 6);
        fault(HEAD + "A\n\nNNNN", BODY + 2, 6);
        fault(HEAD + "A", BODY + 1, 6);
        fault(HEAD + "A\n", BODY + 2, 6);
        fault(HEAD + "NNN", BODY + 3, 6);
        fault(HEAD + "NNN\n", BODY + 4, 6);
        good(HEAD + "A".repeat(69) + "\nNNNN");
        fault(HEAD + "A".repeat(69), BODY + 69, 6);
        fault(HEAD + "A".repeat(70), BODY + 69, 6);
        fault(HEAD + "A".repeat(70) + "\nNNNN", BODY + 69, 6);
        fault(HEAD + "A".repeat(69) + "a", BODY + 69, 6);
        fault(HEAD + "a".repeat(70), BODY, 6);
    }

    private static void lines() {
        String twenty = HEAD + "A\n".repeat(20);
        good(twenty + "NNNN");
        good(HEAD + ("B".repeat(69) + "\n").repeat(20) + "NNNN");
        fault(twenty, BODY + 40, 7);
        fault(twenty + "A", BODY + 40, 7);
        fault(twenty + "A\nNNNN", BODY + 40, 7);
        fault(twenty + "\n", BODY + 40, 7);
        fault(twenty + "NNN", BODY + 40, 7);
        fault(twenty + "NNNNN", BODY + 40, 7);
        fault(twenty + "NNNN ", BODY + 40, 7);
        fault(twenty + "NNNNa", BODY + 40, 7);
        fault(twenty + "NNNN\n", BODY + 44, 8);
        fault(HEAD + "A\n".repeat(19), BODY + 38, 6);
        good(HEAD + "A\n".repeat(19) + "NNNN");
    }

    private static void closing() {
        good(HEAD + "NNNN");
        fault(HEAD + "NNNN\n", BODY + 4, 8);
        fault(HEAD + "NNNN\nNNNN", BODY + 4, 8);
        fault(HEAD + "A\nNNNN\n", BODY + 6, 8);
        good(HEAD + "NNNNN\nNNNN");
        good(HEAD + "NNNN \nNNNN");
        good(HEAD + " NNNN\nNNNN");
        good(HEAD + "NNNN.\nNNNN");
        fault(HEAD + "NNNNa", BODY + 4, 6);
        fault(HEAD + "NNNNN", BODY + 5, 6);
    }

    /** A text that ends too early has its fault at its length, whatever stands behind it. */
    private static void everyCut() {
        String text = Texts.simple("KK", "EAAAAAAA", "EBAAAAAA").replace("NNNN", "A B\nNNNN");
        TextNet net = new TextNet();
        Texts.write(net, text);
        int origin = text.indexOf(Texts.ORIGIN);
        for (int n = 0; n < text.length(); n++) {
            int rule = n < 3 ? 1 : n < origin ? 2 : n < origin + Texts.ORIGIN.length() ? 5 : 6;
            check.due("file of the first " + n, net.file(0, n), -1 - 10 * n - rule);
        }
        check.due("file of all", net.file(0, text.length()), 1);
    }

    private static void put() {
        TextNet net = new TextNet();
        check.refusesArgument("put(-1, 0)", () -> net.put(-1, 0));
        check.refusesArgument("put(1600, 0)", () -> net.put(1600, 0));
        check.refusesArgument("put(least, 0)", () -> net.put(Integer.MIN_VALUE, 0));
        check.refusesArgument("put(most, 0)", () -> net.put(Integer.MAX_VALUE, 0));
        for (int i = 1596; i < 1600; i++) {
            net.put(i, -1);
        }
        Texts.route(net, 0, "E", -1, -1);
        String text = Texts.simple("GG", "EAAAAAAA");
        check.due("file", Texts.file(net, 0, text), 1);
        net.put(1, 0x41424344);
        check.due("file of an altered text", net.file(0, text.length()), -2);
        check.due("a filed text stays as it was", Texts.onDesk(net, 0, 0).equals(text), true);
        net.put(1, Texts.word("G\nEA", 0));
        check.due("file again", net.file(0, text.length()), 2);
        for (int i = 0; i < 3; i++) {
            net.put(text.length() - 1 + i, Texts.word("N\u0000\u0000\u0000", 0));
        }
        check.due("bytes behind the length don't count", net.file(0, text.length()), 3);
        net.put(11, Texts.word("\n010", 0));
        net.put(12, Texts.word("0100", 0));
        check.due("puts may overlap", net.file(0, text.length()), 4);
    }

    private static void fileRefuses() {
        TextNet net = new TextNet();
        String text = Texts.simple("GG", "EAAAAAAA");
        Texts.write(net, text);
        int n = text.length();
        check.refusesArgument("file(-1, n)", () -> net.file(-1, n));
        check.refusesArgument("file(6, n)", () -> net.file(6, n));
        check.refusesArgument("file(0, -1)", () -> net.file(0, -1));
        check.refusesArgument("file(0, 1601)", () -> net.file(0, 1601));
        check.due("file(0, 1600)", net.file(0, 1600), -1 - 10 * n - 6);
        for (int k = 1; k <= 200; k++) {
            check.due("file number " + k, net.file(k % 6, n), k);
        }
        check.refusesState("file of a 201st", () -> net.file(0, n));
        check.refusesState("file of a 201st with a fault", () -> net.file(0, 0));
        check.refusesArgument("file(6, n) when 200 are filed", () -> net.file(6, n));
        check.refusesArgument("file(0, 1601) when 200 are filed", () -> net.file(0, 1601));
        check.due("messages filed", net.count(-1, 4), 200);
        check.due("unknown at 0", net.count(0, 0), 33);
    }
}
