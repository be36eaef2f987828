import java.util.ArrayDeque;
import java.util.ArrayList;
import java.util.Arrays;
import java.util.Deque;
import java.util.HashSet;
import java.util.List;
import java.util.Set;
import java.util.TreeSet;

/**
 * The document once more, written from its words with lists and sets and without any thrift.
 * ModelTest holds MeterNetwork against it; it shares no line with it.
 */
final class PlainNetwork {
    private World world = new World();
    private final Deque<World> saved = new ArrayDeque<>();
    private final StringBuilder text = new StringBuilder();

    static final class Reading {
        final int meter;
        final int number;
        final int value;
        final int time;
        int stamp;

        Reading(int meter, int number, int value, int time, int stamp) {
            this.meter = meter;
            this.number = number;
            this.value = value;
            this.time = time;
            this.stamp = stamp;
        }

        Reading copy() {
            return new Reading(meter, number, value, time, stamp);
        }

        boolean is(int otherMeter, int otherNumber) {
            return meter == otherMeter && number == otherNumber;
        }

        int part(int part) {
            return new int[] {meter, number, value, time, stamp}[part];
        }
    }

    static final class Node {
        boolean on = true;
        Integer parent;
        Integer depth;
        int heard;
        int offset;
        int faults;
        int taken;
        List<Reading> readings = new ArrayList<>();

        Node copy() {
            Node node = new Node();
            node.on = on;
            node.parent = parent;
            node.depth = depth;
            node.heard = heard;
            node.offset = offset;
            node.faults = faults;
            node.taken = taken;
            for (Reading reading : readings) {
                node.readings.add(reading.copy());
            }
            return node;
        }

        boolean has(Reading wanted) {
            for (Reading reading : readings) {
                if (reading.is(wanted.meter, wanted.number)) {
                    return true;
                }
            }
            return false;
        }
    }

    static final class World {
        List<Node> nodes = new ArrayList<>();
        Set<String> links = new TreeSet<>();
        int time;
        int patience = 2;
        int[] counts = new int[6];

        World() {
            for (int i = 0; i < 10; i++) {
                nodes.add(new Node());
            }
            nodes.get(0).depth = 0;
        }

        World copy() {
            World other = new World();
            other.nodes.clear();
            for (Node node : nodes) {
                other.nodes.add(node.copy());
            }
            other.links = new TreeSet<>(links);
            other.time = time;
            other.patience = patience;
            other.counts = counts.clone();
            return other;
        }

        static String name(int a, int b) {
            return Math.min(a, b) + "-" + Math.max(a, b);
        }

        void link(int a, int b, boolean on) {
            if (on) {
                links.add(name(a, b));
            } else {
                links.remove(name(a, b));
            }
        }

        boolean connected(int a, int b) {
            return links.contains(name(a, b)) && nodes.get(a).on && nodes.get(b).on;
        }

        boolean canTake(int meter) {
            return nodes.get(meter).readings.size() < 6 && counts[0] < 60;
        }

        int take(int meter, int value) {
            Node node = nodes.get(meter);
            node.readings.add(new Reading(meter, node.taken, value, time, time + node.offset));
            node.taken++;
            counts[0]++;
            return node.taken - 1;
        }

        int run(int slots) {
            int before = nodes.get(0).readings.size();
            for (int i = 0; i < slots; i++) {
                slot(time % 10);
                time++;
            }
            return nodes.get(0).readings.size() - before;
        }

        int missing() {
            return counts[0] - nodes.get(0).readings.size();
        }

        private void slot(int number) {
            Node n = nodes.get(number);
            if (!n.on) {
                return;
            }
            if (number > 0 && n.parent != null && time - n.heard > 10 * patience) {
                drop(n);
            }
            for (int m = 1; m < 10; m++) {
                if (connected(m, number)) {
                    hear(m, number);
                }
            }
            if (number > 0 && n.parent != null && connected(number, n.parent) && !n.readings.isEmpty()) {
                send(n, n.parent);
            }
        }

        private void drop(Node node) {
            node.parent = null;
            node.depth = null;
            counts[5]++;
        }

        private void hear(int m, int n) {
            Node meter = nodes.get(m);
            Node speaker = nodes.get(n);
            if (meter.parent != null && meter.parent == n) {
                meter.heard = time;
                if (speaker.depth != null && speaker.depth < 9) {
                    meter.depth = speaker.depth + 1;
                    setClock(meter, speaker);
                } else {
                    drop(meter);
                }
                return;
            }
            if (speaker.depth == null || speaker.depth >= 9) {
                return;
            }
            if (speaker.parent != null && speaker.parent == m) {
                return;
            }
            if (meter.parent == null || meter.depth > speaker.depth + 1) {
                meter.parent = n;
                meter.depth = speaker.depth + 1;
                meter.heard = time;
                setClock(meter, speaker);
            }
        }

        private void setClock(Node meter, Node by) {
            for (Reading reading : meter.readings) {
                reading.stamp = reading.stamp - meter.offset + by.offset;
            }
            meter.offset = by.offset;
        }

        private void send(Node n, int to) {
            Node p = nodes.get(to);
            Reading first = n.readings.get(0);
            counts[1]++;
            if (p.has(first)) {
                counts[2]++;
            } else if (to != 0 && p.readings.size() == 6) {
                counts[3]++;
                return;
            } else {
                Reading copy = first.copy();
                copy.stamp += p.offset - n.offset;
                p.readings.add(copy);
            }
            if (n.faults > 0) {
                n.faults--;
                counts[4]++;
            } else {
                n.readings.remove(0);
            }
        }
    }

    private static void node(int node) {
        if (node < 0 || node > 9) {
            throw new IndexOutOfBoundsException();
        }
    }

    private static void meter(int meter) {
        if (meter < 1 || meter > 9) {
            throw new IndexOutOfBoundsException();
        }
    }

    private static void range(int value, int least, int most) {
        if (value < least || value > most) {
            throw new IllegalArgumentException();
        }
    }

    private void save() {
        saved.addLast(world.copy());
        if (saved.size() > 6) {
            saved.removeFirst();
        }
    }

    public int link(int a, int b, boolean on) {
        node(a);
        node(b);
        if (a == b) {
            throw new IllegalArgumentException();
        }
        save();
        world.link(a, b, on);
        return world.links.size();
    }

    public int power(int node, boolean on) {
        node(node);
        save();
        world.nodes.get(node).on = on;
        return (int) world.nodes.stream().filter(n -> n.on).count();
    }

    public int jump(int meter, int slots) {
        meter(meter);
        range(slots, -100, 100);
        save();
        world.nodes.get(meter).offset += slots;
        return world.nodes.get(meter).offset;
    }

    public int setFaults(int meter, int count) {
        meter(meter);
        range(count, 0, 9);
        save();
        int previous = world.nodes.get(meter).faults;
        world.nodes.get(meter).faults = count;
        return previous;
    }

    public int setPatience(int rounds) {
        range(rounds, 1, 5);
        save();
        int previous = world.patience;
        world.patience = rounds;
        return previous;
    }

    public int take(int meter, int value) {
        meter(meter);
        range(value, 0, 999);
        if (!world.canTake(meter)) {
            throw new IllegalStateException();
        }
        save();
        return world.take(meter, value);
    }

    public int run(int slots) {
        range(slots, 1, 100);
        save();
        return world.run(slots);
    }

    public int appendText(int character) {
        range(character, 32, 126);
        if (text.length() == 80) {
            throw new IllegalStateException();
        }
        text.append((char) character);
        return text.length();
    }

    public int clearText() {
        int before = text.length();
        text.setLength(0);
        return before;
    }

    public int errorPosition() {
        return TextsTest.positionByPattern(text.toString());
    }

    public int runText() {
        if (errorPosition() != -1) {
            throw new IllegalStateException();
        }
        save();
        int executed = 0;
        for (String command : text.toString().split(";")) {
            if (!execute(command)) {
                return executed;
            }
            executed++;
        }
        return executed;
    }

    private boolean execute(String command) {
        int first = command.charAt(1) - '0';
        switch (command.charAt(0)) {
            case '+':
            case '-':
                world.link(first, command.charAt(2) - '0', command.charAt(0) == '+');
                return true;
            case '!':
                world.nodes.get(first).on = !world.nodes.get(first).on;
                return true;
            case 'r':
                world.run(Integer.parseInt(command.substring(1)));
                return true;
            default:
                if (!world.canTake(first)) {
                    return false;
                }
                world.take(first, Integer.parseInt(command.substring(3)));
                return true;
        }
    }

    public int undo() {
        if (saved.isEmpty()) {
            throw new IllegalStateException();
        }
        world = saved.removeLast();
        return saved.size();
    }

    public boolean isConnected(int a, int b) {
        node(a);
        node(b);
        return world.connected(a, b);
    }

    public int parent(int node) {
        node(node);
        Integer parent = world.nodes.get(node).parent;
        return parent == null ? -1 : parent;
    }

    public int depth(int node) {
        node(node);
        Integer depth = world.nodes.get(node).depth;
        return depth == null ? -1 : depth;
    }

    public int clock(int node) {
        node(node);
        return world.time + world.nodes.get(node).offset;
    }

    public int silence(int meter) {
        meter(meter);
        Node node = world.nodes.get(meter);
        return node.parent == null ? -1 : world.time - node.heard;
    }

    public int faults(int meter) {
        meter(meter);
        return world.nodes.get(meter).faults;
    }

    public int hops(int node) {
        node(node);
        int[] far = new int[10];
        Arrays.fill(far, -1);
        Deque<Integer> queue = new ArrayDeque<>();
        if (world.nodes.get(0).on) {
            far[0] = 0;
            queue.add(0);
        }
        while (!queue.isEmpty()) {
            int a = queue.remove();
            for (int b = 0; b < 10; b++) {
                if (far[b] == -1 && world.connected(a, b)) {
                    far[b] = far[a] + 1;
                    queue.add(b);
                }
            }
        }
        return far[node];
    }

    public int stored(int meter) {
        meter(meter);
        return world.nodes.get(meter).readings.size();
    }

    public int storedReading(int meter, int index, int part) {
        meter(meter);
        return partOf(meter, index, part);
    }

    public int collected() {
        return world.nodes.get(0).readings.size();
    }

    public int collectedReading(int index, int part) {
        return partOf(0, index, part);
    }

    private int partOf(int node, int index, int part) {
        if (index < 0) {
            throw new IndexOutOfBoundsException();
        }
        range(part, 0, 4);
        List<Reading> readings = world.nodes.get(node).readings;
        return index < readings.size() ? readings.get(index).part(part) : -1;
    }

    public int copies(int meter, int number) {
        meter(meter);
        if (number < 0 || number >= world.nodes.get(meter).taken) {
            return -1;
        }
        Set<Node> holders = new HashSet<>();
        for (Node node : world.nodes.subList(1, 10)) {
            for (Reading reading : node.readings) {
                if (reading.is(meter, number)) {
                    holders.add(node);
                }
            }
        }
        return holders.size();
    }

    public int missing() {
        return world.missing();
    }

    public int wrongStamps() {
        return (int) world.nodes.get(0).readings.stream().filter(r -> r.stamp != r.time).count();
    }

    public int slotsToCollect() {
        World trial = world.copy();
        int slots = 0;
        while (trial.missing() > 0) {
            if (slots == 400) {
                return -1;
            }
            trial.run(1);
            slots++;
        }
        return slots;
    }

    public int ifRun(int slots) {
        range(slots, 1, 100);
        return world.copy().run(slots);
    }

    public int time() {
        return world.time;
    }

    public int count(int what) {
        range(what, 0, 5);
        return world.counts[what];
    }

    public double joined() {
        return world.nodes.stream().filter(n -> n.parent != null).count() / 9.0;
    }

    public int savedStates() {
        return saved.size();
    }

    public int textLength() {
        return text.length();
    }
}
