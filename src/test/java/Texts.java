/** Texts and prefixes, written into a net by its own calls. */
final class Texts {
    static final String ORIGIN = "010000 EZZZZZZZ\n";

    private Texts() {
    }

    static String simple(String priority, String... addresses) {
        return priority + "\n" + String.join(" ", addresses) + "\n" + ORIGIN + "NNNN";
    }

    static int word(String bytes, int from) {
        int word = 0;
        for (int k = 0; k < 4 && from + k < bytes.length(); k++) {
            word |= (bytes.charAt(from + k) & 255) << (8 * k);
        }
        return word;
    }

    static void write(Net net, String text) {
        for (int i = 0; i < text.length() && i < 1600; i += 4) {
            net.put(i, word(text, i));
        }
    }

    static int file(Net net, int s, String text) {
        write(net, text);
        return net.file(s, text.length());
    }

    static void route(Net net, int s, String prefix, int main, int alternate) {
        net.route(s, word(prefix, 0), word(prefix, 4), prefix.length(), main, alternate);
    }

    /** The text of the k-th message on a desk, as read tells it byte by byte. */
    static String onDesk(Net net, int s, int k) {
        StringBuilder text = new StringBuilder();
        int next = net.read(s, k, 0);
        while (next >= 0) {
            text.append((char) next);
            next = net.read(s, k, text.length());
        }
        return text.toString();
    }
}
