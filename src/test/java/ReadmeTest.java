/** The example of README.md, call by call, answers what its comments say. */
public final class ReadmeTest {
    public static void main(String[] args) {
        Check check = new Check();
        Net net = new Net();
        net.line(0, 0, 1);
        net.route(0, 'E' | 'B' << 8, 0, 2, 0, -1);
        net.route(1, 'E' | 'B' << 8, 0, 2, -1, -1);

        String text = "GG\nEBAAAAAA\n010000 EAAAAAAA\nHELLO\nNNNN";
        for (int i = 0; i < text.length(); i++) {
            net.put(i, text.charAt(i));
        }
        int message = net.file(0, text.length());
        check.due("file", message, 1);
        check.due("send", net.send(0, 0), 1);
        check.due("carry there", net.carry(0, 0), 1);
        check.due("carry back", net.carry(0, 1), 4);
        check.due("arrived", net.arrived(message, 0), true);
        check.due("read", net.read(1, 0, 0), 'G');
        check.end();
    }
}
