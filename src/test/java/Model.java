import java.nio.charset.StandardCharsets;
import java.util.ArrayList;
import java.util.Arrays;
import java.util.HashMap;
import java.util.LinkedHashSet;
import java.util.List;
import java.util.Map;
import java.util.TreeMap;
import java.util.TreeSet;

/** The document's net once more, with sets, maps and texts, for ModelTest to compare with. */
final class Model {
    record Message(int number, String text, List<String> addresses) {
        String priority() {
            return text.substring(0, 2);
        }
    }

    record Copy(Message message, List<String> addresses, int cameBy) {
    }

    record Frame(char kind, int serial, Copy copy) {
    }

    record Entry(int main, int alternate) {
    }

    static final class Way {
        final List<Copy> queue = new ArrayList<>();
        final TreeMap<Integer, Copy> kept = new TreeMap<>();
        final List<Frame> wire = new ArrayList<>();
        int sent;
        int taken;
        int lastMessage;
        int lastRequest = -1000000;

        void put(Frame frame) {
            if (wire.size() < 200) {
                wire.add(frame);
            }
        }
    }

    static final class Cable {
        final int[] ends;
        final Way[] ways = {new Way(), new Way()};
        boolean isCut;

        Cable(int a, int b) {
            ends = new int[] {a, b};
        }
    }

    static final class Post {
        final Map<String, Entry> entries = new HashMap<>();
        final LinkedHashSet<Message> desk = new LinkedHashSet<>();
        final List<Copy> held = new ArrayList<>();
        int unknown;
        int doubles;
    }

    private static final List<String> PRIORITIES = List.of("SS", "DD", "FF", "GG", "KK");
    private final byte[] draft = new byte[1600];
    private final Post[] posts = new Post[6];
    private final Map<Integer, Cable> cables = new TreeMap<>();
    private final List<Message> messages = new ArrayList<>();
    private final TreeSet<String> arrived = new TreeSet<>();
    private int minute;

    Model() {
        Arrays.setAll(posts, s -> new Post());
    }

    private static void need(boolean is) {
        if (!is) {
            throw new IllegalArgumentException();
        }
    }

    private Post post(int s) {
        need(s >= 0 && s <= 5);
        return posts[s];
    }

    private Cable cable(int l) {
        need(cables.containsKey(l));
        return cables.get(l);
    }

    private Way way(int l, int channel) {
        need(channel == 0 || channel == 1);
        return cable(l).ways[channel];
    }

    private long linesAt(int s) {
        return cables.values().stream().filter(c -> c.ends[0] == s || c.ends[1] == s).count();
    }

    void line(int l, int a, int b) {
        post(a);
        post(b);
        need(l >= 0 && l <= 7 && !cables.containsKey(l) && a != b && linesAt(a) < 4 && linesAt(b) < 4);
        cables.put(l, new Cable(a, b));
    }

    private boolean isAt(int s, int l) {
        return l == -1 || cables.containsKey(l) && (cables.get(l).ends[0] == s || cables.get(l).ends[1] == s);
    }

    void route(int s, int one, int two, int length, int main, int alternate) {
        Post post = post(s);
        need(length >= 1 && length <= 8);
        StringBuilder all = new StringBuilder();
        for (int k = 0; k < 8; k++) {
            all.append((char) ((k < 4 ? one >> 8 * k : two >> 8 * (k - 4)) & 255));
        }
        String prefix = all.substring(0, length);
        need(prefix.matches("[A-Z]+") && all.substring(length).matches("\0*"));
        need(!post.entries.containsKey(prefix));
        need(isAt(s, main) && isAt(s, alternate) && (main != alternate || main == -1));
        if (post.entries.size() == 16) {
            throw new IllegalStateException();
        }
        post.entries.put(prefix, new Entry(main, alternate));
    }

    void put(int i, int v) {
        need(i >= 0 && i <= 1599);
        for (int k = 0; k < 4 && i + k < 1600; k++) {
            draft[i + k] = (byte) (v >> 8 * k);
        }
    }

    int file(int s, int length) {
        post(s);
        need(length >= 0 && length <= 1600);
        if (messages.size() == 200) {
            throw new IllegalStateException();
        }
        String text = new String(draft, 0, length, StandardCharsets.ISO_8859_1);
        int[] fault = fault(text);
        if (fault != null) {
            return -1 - 10 * fault[0] - fault[1];
        }
        List<String> addresses = List.of(text.substring(3, text.indexOf('\n', 3)).split(" "));
        Message message = new Message(messages.size() + 1, text, addresses);
        messages.add(message);
        come(s, new Copy(message, addresses, -1));
        return message.number();
    }

    private static int[] at(int place, int rule) {
        return new int[] {place, rule};
    }

    /** The first place at which a text leaves a pattern of one sign for each byte, or -1. */
    private static int leaves(String text, int from, String pattern) {
        for (int k = 0; k < pattern.length(); k++) {
            char is = from + k < text.length() ? text.charAt(from + k) : 0xFFFF;
            char due = pattern.charAt(k);
            boolean fits = due == 'L' ? is >= 'A' && is <= 'Z' : due == '9' ? is >= '0' && is <= '9' : is == due;
            if (!fits) {
                return from + k;
            }
        }
        return -1;
    }

    private static int[] fault(String text) {
        int[] head = headFault(text);
        if (head != null) {
            return head;
        }
        int from = text.indexOf('\n', 3) + 1;
        int[] origin = originFault(text, from);
        return origin != null ? origin : linesFault(text, from + 16);
    }

    private static int[] headFault(String text) {
        if (text.isEmpty() || PRIORITIES.stream().noneMatch(p -> p.charAt(0) == text.charAt(0))) {
            return at(0, 1);
        }
        if (text.length() == 1) {
            return at(1, 1);
        }
        if (!PRIORITIES.contains(text.substring(0, 2))) {
            return at(0, 1);
        }
        if (!text.startsWith("\n", 2)) {
            return at(2, 1);
        }
        List<String> there = new ArrayList<>();
        int from = 3;
        while (true) {
            int left = leaves(text, from, "LLLLLLLL");
            if (left >= 0) {
                return at(left, 2);
            }
            String address = text.substring(from, from + 8);
            if (there.contains(address)) {
                return at(from, 3);
            }
            there.add(address);
            from += 9;
            if (text.startsWith("\n", from - 1)) {
                return null;
            }
            if (!text.startsWith(" ", from - 1)) {
                return at(from - 1, 2);
            }
            if (there.size() == 7) {
                return at(from - 1, 4);
            }
        }
    }

    private static int[] originFault(String text, int from) {
        String[] patterns = {"0[1-9]|[12][0-9]|3[01]", "[01][0-9]|2[0-3]", "[0-5][0-9]"};
        for (int k = 0; k < 3; k++) {
            int start = from + 2 * k;
            int left = leaves(text, start, "99");
            if (left >= 0) {
                return at(left, 5);
            }
            if (!text.substring(start, start + 2).matches(patterns[k])) {
                return at(start, 5);
            }
        }
        int left = leaves(text, from + 6, " LLLLLLLL\n");
        return left >= 0 ? at(left, 5) : null;
    }

    private static int[] linesFault(String text, int from) {
        int lines = 0;
        while (true) {
            String rest = text.substring(from);
            if (rest.equals("NNNN")) {
                return null;
            }
            if (rest.startsWith("NNNN\n")) {
                return at(from + 4, 8);
            }
            if (lines == 20) {
                return at(from, 7);
            }
            int signs = 0;
            while (signs < rest.length() && rest.substring(signs, signs + 1).matches("[A-Z0-9 \\-?:().,'/+=]")) {
                signs++;
            }
            if (signs > 69) {
                return at(from + 69, 6);
            }
            if (signs == 0 || !rest.startsWith("\n", signs)) {
                return at(from + signs, 6);
            }
            from += signs + 1;
            lines++;
        }
    }

    private Entry entry(Post post, String address) {
        for (int n = 8; n > 0; n--) {
            if (post.entries.containsKey(address.substring(0, n))) {
                return post.entries.get(address.substring(0, n));
            }
        }
        return null;
    }

    private boolean isOpen(int l, int cameBy) {
        return l >= 0 && l != cameBy && !cables.get(l).isCut;
    }

    private static String key(Message message, String address) {
        return message.number() + " " + address;
    }

    private void come(int s, Copy copy) {
        Post post = posts[s];
        Map<Integer, List<String>> parts = new TreeMap<>();
        for (String address : copy.addresses()) {
            Entry entry = entry(post, address);
            if (entry == null) {
                post.unknown++;
            } else if (entry.main() == -1) {
                if (arrived.add(key(copy.message(), address))) {
                    post.desk.add(copy.message());
                } else {
                    post.doubles++;
                }
            } else {
                int l = isOpen(entry.main(), copy.cameBy()) ? entry.main()
                        : isOpen(entry.alternate(), copy.cameBy()) ? entry.alternate() : 99;
                parts.computeIfAbsent(l, x -> new ArrayList<>()).add(address);
            }
        }
        parts.forEach((l, addresses) -> {
            Copy part = new Copy(copy.message(), addresses, copy.cameBy());
            if (l == 99) {
                post.held.add(part);
            } else {
                cables.get(l).ways[cables.get(l).ends[0] == s ? 0 : 1].queue.add(part);
            }
        });
    }

    int send(int l, int channel) {
        Way way = way(l, channel);
        if (cable(l).isCut || way.kept.size() == 20 || way.queue.isEmpty()) {
            return 0;
        }
        Copy best = way.queue.get(0);
        for (Copy copy : way.queue) {
            if (PRIORITIES.indexOf(copy.message().priority()) < PRIORITIES.indexOf(best.message().priority())) {
                best = copy;
            }
        }
        Copy chosen = best;
        way.queue.removeIf(copy -> copy == chosen);
        way.sent++;
        way.kept.put(way.sent, best);
        way.put(new Frame('M', way.sent, best));
        way.lastMessage = minute;
        return way.sent;
    }

    int carry(int l, int channel) {
        Way way = way(l, channel);
        Way back = way(l, 1 - channel);
        if (way.wire.isEmpty()) {
            return 0;
        }
        Frame frame = way.wire.remove(0);
        if (frame.kind() == 'A') {
            if (back.kept.containsKey(frame.serial())) {
                back.kept.headMap(frame.serial(), true).clear();
            }
            return 4;
        }
        if (frame.kind() == 'R') {
            if (back.kept.containsKey(frame.serial())) {
                back.kept.tailMap(frame.serial(), true).forEach((n, copy) -> back.put(new Frame('M', n, copy)));
                back.lastMessage = minute;
            }
            return 5;
        }
        if (frame.serial() == way.taken + 1) {
            way.taken++;
            back.put(new Frame('A', way.taken, null));
            Copy copy = frame.copy();
            come(cable(l).ends[1 - channel], new Copy(copy.message(), copy.addresses(), l));
            return 1;
        }
        if (frame.serial() > way.taken) {
            if (minute >= back.lastRequest + 3) {
                back.put(new Frame('R', way.taken + 1, null));
                back.lastRequest = minute;
            }
            return 2;
        }
        back.put(new Frame('A', way.taken, null));
        return 3;
    }

    boolean disturb(int l, int channel, int how) {
        List<Frame> wire = way(l, channel).wire;
        need(how == 0 || how == 1);
        if (wire.isEmpty() || how == 1 && wire.size() == 200) {
            return false;
        }
        if (how == 0) {
            wire.remove(0);
        } else {
            wire.add(1, wire.get(0));
        }
        return true;
    }

    boolean serve(int l, boolean is) {
        Cable cable = cable(l);
        if (cable.isCut != is) {
            return false;
        }
        cable.isCut = !is;
        if (!is) {
            cable.ways[0].wire.clear();
            cable.ways[1].wire.clear();
            return true;
        }
        for (int end : cable.ends) {
            List<Copy> there = List.copyOf(posts[end].held);
            posts[end].held.clear();
            there.forEach(copy -> come(end, copy));
        }
        return true;
    }

    int time(int minutes) {
        need(minutes >= 0 && minutes <= 1000);
        minute += minutes;
        int again = 0;
        for (Cable cable : cables.values()) {
            for (Way way : cable.ways) {
                if (!cable.isCut && !way.kept.isEmpty() && minute >= way.lastMessage + 5) {
                    way.put(new Frame('M', way.kept.firstKey(), way.kept.firstEntry().getValue()));
                    way.lastMessage = minute;
                    again++;
                }
            }
        }
        return again;
    }

    int delivered(int s) {
        return post(s).desk.size();
    }

    int read(int s, int k, int i) {
        List<Message> desk = List.copyOf(post(s).desk);
        if (k < 0 || k >= desk.size() || i < 0 || i >= desk.get(k).text().length()) {
            return -1;
        }
        return desk.get(k).text().charAt(i);
    }

    boolean arrived(int message, int k) {
        need(message >= 1 && message <= messages.size());
        Message asked = messages.get(message - 1);
        need(k >= 0 && k < asked.addresses().size());
        return arrived.contains(key(asked, asked.addresses().get(k)));
    }

    int channel(int l, int channel, int what) {
        Way way = way(l, channel);
        need(what >= 0 && what <= 8);
        if (what < 5) {
            return (int) way.queue.stream().filter(c -> c.message().priority().equals(PRIORITIES.get(what))).count();
        }
        return new int[] {way.kept.size(), way.wire.size(), way.sent + 1, way.taken + 1}[what - 5];
    }

    int count(int s, int what) {
        if (s == -1) {
            need(what == 3 || what == 4);
            return what == 3 ? minute : messages.size();
        }
        Post post = post(s);
        need(what >= 0 && what <= 2);
        return new int[] {post.unknown, post.doubles, post.held.size()}[what];
    }
}
