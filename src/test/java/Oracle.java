import java.util.ArrayDeque;
import java.util.ArrayList;
import java.util.HashMap;
import java.util.HashSet;
import java.util.List;
import java.util.Map;
import java.util.Set;
import java.util.TreeSet;

/**
 * The document's terms once more, written apart from the class: straight from the bytes, with
 * collections, and comparing images by a canonical text instead of pairing their objects.
 */
final class Oracle {

    private static final int NONE = -1;

    private final int[] bytes;
    private final List<Integer> specials = new ArrayList<>();
    private final List<Node> nodes = new ArrayList<>();
    private int n;
    private int at;

    private static final class Node {
        int place;
        int type;
        boolean bytes;
        final List<Integer> parts = new ArrayList<>();

        int fields() {
            return bytes ? -1 : parts.size();
        }
    }

    private static final class Refused extends Exception {
        private static final long serialVersionUID = 1L;
        final int place;

        Refused(int place) {
            this.place = place;
        }
    }

    Oracle(byte[] row) {
        bytes = new int[row.length];
        for (int i = 0; i < row.length; i++) {
            bytes[i] = row[i] & 255;
        }
    }

    int place() {
        try {
            head();
            body();
            room();
            specialValues();
            for (Node node : nodes) {
                require(fits(node), node.place);
            }
            require(scheduled(special(14)), 64);
            return NONE;
        } catch (Refused refused) {
            return refused.place;
        }
    }

    private static void require(boolean holds, int place) throws Refused {
        if (!holds) {
            throw new Refused(place);
        }
    }

    private void head() throws Refused {
        String[] ranges = {"77-77", "77-77", "1-1", "0-0", "12-18", "10-14", "0-255", "0-255"};
        for (int i = 0; i < 8; i++) {
            String[] range = ranges[i].split("-");
            require(i < bytes.length && Integer.parseInt(range[0]) <= bytes[i]
                && bytes[i] <= Integer.parseInt(range[1]), i);
        }
        n = 256 * bytes[6] + bytes[7];
        require(n != 0 && n < 8192, 6);
        at = 8;
    }

    private long unsigned(int many) throws Refused {
        require(at + many <= bytes.length, at);
        long value = 0;
        for (int i = 0; i < many; i++) {
            value = 256 * value + bytes[at + i];
        }
        return value;
    }

    private int value() throws Refused {
        long value = unsigned(4);
        require(value % 2 == 1 || value / 2 <= n, at);
        at += 4;
        return (int) value;
    }

    private void body() throws Refused {
        for (int k = 0; k < 50; k++) {
            specials.add(value());
        }
        for (int k = 1; k <= n; k++) {
            Node node = new Node();
            nodes.add(node);
            node.place = at;
            node.type = value();
            long kind = unsigned(1);
            require(kind < 2, at);
            node.bytes = kind == 1;
            at++;
            int size = (int) unsigned(2);
            at += 2;
            require(!node.bytes || at + size <= bytes.length, at);
            for (int i = 0; i < size; i++) {
                node.parts.add(node.bytes ? bytes[at++] : value());
            }
        }
        require(at == bytes.length, at);
    }

    int words() {
        int words = 0;
        for (Node node : nodes) {
            int size = node.parts.size();
            words += 4 + (node.bytes ? size / 4 + (size % 4 == 0 ? 0 : 1) : size);
        }
        return words;
    }

    private void room() throws Refused {
        require(words() <= Math.pow(2, bytes[4]), 4);
        require(n <= Math.pow(2, bytes[5]), 5);
    }

    /** The object that a value is, or null. */
    private Node node(Integer value) {
        return value == null || value % 2 != 0 || value == 0 ? null : nodes.get(value / 2 - 1);
    }

    private Node special(int k) {
        return node(specials.get(k));
    }

    private static Integer field(Node node, int i) {
        return node == null || i >= node.fields() ? null : node.parts.get(i);
    }

    private static boolean isNumber(Integer value, long low, long high) {
        return value != null && value % 2 != 0 && low <= Math.floorDiv(value, 2)
            && Math.floorDiv(value, 2) <= high;
    }

    private static boolean isNil(Integer value) {
        return value != null && value == 0;
    }

    private static boolean nilOrCount(Integer value) {
        return isNil(value) || isNumber(value, 0, Integer.MAX_VALUE);
    }

    private void specialValues() throws Refused {
        Set<Integer> two = new HashSet<>();
        Set<Integer> eleven = new HashSet<>();
        for (int k = 0; k < 15; k++) {
            Node node = special(k);
            boolean good = node != null;
            if (good && k < 2) {
                good = two.add(specials.get(k));
            } else if (good && k < 13) {
                good = eleven.add(specials.get(k)) && isClass(node);
            } else if (good && k == 13) {
                good = node.fields() == 256;
            } else if (good) {
                good = node.fields() >= 2 && !isContext(node);
            }
            require(good, 8 + 4 * k);
        }
    }

    private boolean isContext(Node node) {
        return node != null && (node.type == specials.get(7) || node.type == specials.get(8));
    }

    private static int[] shape(Node node) {
        Integer value = field(node, 2);
        if (value == null || value % 2 == 0) {
            return null;
        }
        for (int f = 0; f < 256; f++) {
            for (int i = 0; i < 2; i++) {
                for (int b = 0; b < 2; b++) {
                    boolean allowed = b == 0 || f == 0 && i == 1;
                    if (allowed && 2 * (f + 1024 * i + 2048 * b) + 1 == value) {
                        return new int[] {f, i, b};
                    }
                }
            }
        }
        return null;
    }

    private static boolean isClass(Node node) {
        return node != null && shape(node) != null;
    }

    private boolean fits(Node node) {
        Node type = node(node.type);
        if (!isClass(type)) {
            return false;
        }
        int[] shape = shape(type);
        if (node.bytes != (shape[2] == 1)) {
            return false;
        }
        int more = node.fields() - shape[0];
        if (!node.bytes && (more < 0 || more > 0 && shape[1] == 0)) {
            return false;
        }
        if (!isContext(node)) {
            return true;
        }
        return node.type == specials.get(7) ? isMethodContext(node) : isBlockContext(node);
    }

    /** T and D of a method, or null. */
    private int[] method(Node node) {
        Integer head = field(node, 0);
        if (node == null || node.fields() < 2 || !isNumber(head, 0, 8388607)) {
            return null;
        }
        int number = (head - 1) / 2;
        int a = number % 16;
        int t = number / 16 % 32;
        int d = number / 512 % 64;
        Node code = node(field(node, 1));
        return t < a || code == null || !code.bytes ? null : new int[] {t, d};
    }

    private boolean links(Node node) {
        return (isNil(field(node, 0)) || isContext(node(field(node, 0))))
            && nilOrCount(field(node, 1));
    }

    private static boolean nilFrom(Node node, int from) {
        return node.parts.subList(from, node.parts.size()).stream().allMatch(part -> part == 0);
    }

    private boolean isMethodContext(Node node) {
        int[] method = method(node(field(node, 3)));
        return method != null && node.fields() == 5 + method[0] + method[1] && links(node)
            && isNumber(field(node, 2), method[0], method[0] + method[1])
            && nilFrom(node, 5 + field(node, 2) / 2);
    }

    private boolean isBlockContext(Node node) {
        Node home = node(field(node, 5));
        if (home == null || home.type != specials.get(7) || home.fields() < 5) {
            return false;
        }
        int[] method = method(node(field(home, 3)));
        return method != null && node.fields() == 6 + method[1] && links(node)
            && isNumber(field(node, 2), 0, method[1]) && isNumber(field(node, 3), 0, 15)
            && nilOrCount(field(node, 4)) && nilFrom(node, 6 + field(node, 2) / 2);
    }

    private boolean plain(Node node, int least) {
        return node != null && node.fields() >= least && !isContext(node);
    }

    private boolean scheduled(Node scheduler) {
        Node lists = node(field(scheduler, 0));
        boolean good = plain(lists, 8);
        for (int i = 0; i < 8 && good; i++) {
            good = plain(node(field(lists, i)), 2);
        }
        Node process = node(field(scheduler, 1));
        Node context = node(field(process, 1));
        return good && plain(process, 4) && isContext(context) && !isNil(field(context, 1))
            && isNumber(field(process, 2), 1, 8);
    }

    /** What follows is asked only behind place() of NONE. */
    int objects() {
        return n;
    }

    int specialAt(int k) {
        return k < 0 || k > 49 ? 0 : specials.get(k);
    }

    private Node numbered(int k) {
        return k < 1 || k > n ? null : nodes.get(k - 1);
    }

    int kind(int k) {
        Node node = numbered(k);
        if (node == null) {
            return NONE;
        }
        return isContext(node) ? node.type == specials.get(7) ? 2 : 3 : node.bytes ? 1 : 0;
    }

    int classOf(int k) {
        return numbered(k) == null ? 0 : numbered(k).type;
    }

    int size(int k) {
        return numbered(k) == null ? NONE : numbered(k).parts.size();
    }

    int field(int k, int i) {
        Integer value = i < 0 ? null : field(numbered(k), i);
        return value == null ? 0 : value;
    }

    int byteAt(int k, int i) {
        Node node = numbered(k);
        boolean has = node != null && node.bytes && i >= 0 && i < node.parts.size();
        return has ? node.parts.get(i) : NONE;
    }

    int reachable() {
        return inOrder().size();
    }

    /** The bytes of the image with its reachable objects alone. */
    byte[] written() {
        Map<Integer, Integer> numbers = new HashMap<>();
        for (int value : new TreeSet<>(inOrder().keySet())) {
            numbers.put(value, Model.object(numbers.size() + 1));
        }
        Model model = new Model();
        model.w = bytes[4];
        model.e = bytes[5];
        for (int k = 0; k < 50; k++) {
            model.specials[k] = numbers.getOrDefault(specials.get(k), specials.get(k));
        }
        for (Integer value : new TreeSet<>(numbers.keySet())) {
            Node node = node(value);
            int[] parts = node.parts.stream()
                .mapToInt(part -> node.bytes ? part : numbers.getOrDefault(part, part)).toArray();
            model.things.add(new Model.Thing(numbers.get(node.type), node.bytes ? 1 : 0, parts));
        }
        return model.bytes();
    }

    /** Objects by the order in which they are met first, with that order's number. */
    private Map<Integer, Integer> inOrder() {
        Map<Integer, Integer> met = new HashMap<>();
        ArrayDeque<Integer> open = new ArrayDeque<>();
        for (int value : specials) {
            meet(value, met, open);
        }
        while (!open.isEmpty()) {
            Node node = node(open.remove());
            meet(node.type, met, open);
            for (int part : node.parts) {
                if (!node.bytes) {
                    meet(part, met, open);
                }
            }
        }
        return met;
    }

    private void meet(int value, Map<Integer, Integer> met, ArrayDeque<Integer> open) {
        if (node(value) != null && met.putIfAbsent(value, met.size() + 1) == null) {
            open.add(value);
        }
    }

    /** Two images that are the same but for numbers and what is not reachable have one text. */
    String canonical() {
        Map<Integer, Integer> met = inOrder();
        String[] texts = new String[met.size() + 1];
        texts[0] = bytes[4] + " " + bytes[5] + named(specials, false, met);
        for (Map.Entry<Integer, Integer> entry : met.entrySet()) {
            Node node = node(entry.getKey());
            texts[entry.getValue()] = met.get(node.type) + (node.bytes ? " bytes" : " fields")
                + named(node.parts, node.bytes, met);
        }
        return String.join("\n", texts);
    }

    private static String named(List<Integer> values, boolean plain, Map<Integer, Integer> met) {
        StringBuilder text = new StringBuilder();
        for (int value : values) {
            boolean object = !plain && met.containsKey(value);
            text.append(object ? " #" + met.get(value) : " " + value);
        }
        return text.toString();
    }
}
