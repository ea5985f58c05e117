import java.util.ArrayDeque;
import java.util.ArrayList;
import java.util.Arrays;
import java.util.Deque;
import java.util.List;

/** The document told once more, as a measure for the program: slow, and with the whole Java library. */
final class PlainDesk {
    private static final class Link {
        final int from;
        final int to;
        final int depth;
        final Deque<Integer> queue = new ArrayDeque<>();
        Integer sample;
        int sampleTick;

        Link(int from, int to, int depth) {
            this.from = from;
            this.to = to;
            this.depth = depth;
        }
    }

    private final int[] memory = new int[64];
    private final int[][] regions = new int[4][];
    private final List<int[]> frame = new ArrayList<>();
    private final List<Link> links = new ArrayList<>();
    private final int[][] actions = new int[4][5];
    private final int[][][] programs = new int[4][16][3];
    private final int[][] registers = new int[4][4];
    private final int[] places = new int[4];
    private final boolean[] running = new boolean[4];
    private final int[] faults = new int[4];
    private final List<Deque<Integer>> inputs = new ArrayList<>();
    private final List<List<Integer>> outputs = new ArrayList<>();
    private boolean started;
    private int tick;
    private int waitedUntil;

    PlainDesk() {
        for (int p = 0; p < 4; p++) {
            inputs.add(new ArrayDeque<>());
            outputs.add(new ArrayList<>());
        }
    }

    private static boolean within(int number, int low, int high) {
        return low <= number && number <= high;
    }

    boolean region(int p, int from, int size) {
        boolean fine = within(p, 0, 3) && within(size, 1, 32) && within(from, 0, 63) && from + size <= 64;
        if (fine) {
            regions[p] = new int[] {from, size};
            started = false;
        }
        return fine;
    }

    boolean window(int p, int ticks) {
        boolean fine = within(p, 0, 3) && within(ticks, 1, 9) && frame.size() < 8;
        if (fine) {
            frame.add(new int[] {p, ticks});
            started = false;
        }
        return fine;
    }

    int port(int from, int to, int depth) {
        if (!within(from, 0, 3) || !within(to, 0, 3) || from == to || !within(depth, 0, 4) || links.size() == 6) {
            return -1;
        }
        links.add(new Link(from, to, depth));
        started = false;
        return links.size() - 1;
    }

    boolean action(int p, int fault, int action) {
        boolean fine = within(p, 0, 3) && within(fault, 1, 4) && within(action, 0, 2);
        if (fine) {
            actions[p][fault] = action;
            started = false;
        }
        return fine;
    }

    boolean code(int p, int i, int op, int a, int b) {
        boolean fine = within(p, 0, 3) && within(i, 0, 15);
        if (fine) {
            programs[p][i] = new int[] {op, a, b};
            started = false;
        }
        return fine;
    }

    private int verdict() {
        int[] owners = new int[64];
        int taking = 0;
        boolean common = false;
        for (int p = 0; p < 4; p++) {
            if (regions[p] != null) {
                taking++;
                for (int i = 0; i < regions[p][1]; i++) {
                    common |= ++owners[regions[p][0] + i] > 1;
                }
            }
        }
        if (taking == 0) {
            return 1;
        }
        if (common) {
            return 2;
        }
        for (int p = 0; p < 4; p++) {
            int owner = p;
            if (regions[p] != null && frame.stream().noneMatch(w -> w[0] == owner)) {
                return 3;
            }
        }
        if (frame.stream().anyMatch(w -> regions[w[0]] == null)) {
            return 3;
        }
        return links.stream().allMatch(l -> regions[l.from] != null && regions[l.to] != null) ? 0 : 4;
    }

    int start() {
        int verdict = verdict();
        if (verdict != 0) {
            return verdict;
        }
        Arrays.fill(memory, 0);
        for (int p = 0; p < 4; p++) {
            Arrays.fill(registers[p], 0);
            places[p] = 0;
            faults[p] = 0;
            running[p] = regions[p] != null;
        }
        links.forEach(PlainDesk::empty);
        tick = 0;
        waitedUntil = 0;
        started = true;
        return 0;
    }

    private static void empty(Link link) {
        link.queue.clear();
        link.sample = null;
    }

    int input(int p, int v) {
        if (!within(p, 0, 3) || inputs.get(p).size() == 8) {
            return -1;
        }
        inputs.get(p).addLast(v);
        return inputs.get(p).size();
    }

    /** The window at hand and the ticks of it that are over, from the ticks since the start alone. */
    private int[] hand() {
        int length = frame.stream().mapToInt(w -> w[1]).sum();
        int rest = tick % length;
        int window = 0;
        while (rest >= frame.get(window)[1]) {
            rest -= frame.get(window)[1];
            window++;
        }
        return new int[] {window, rest};
    }

    int run(int n) {
        if (!started || !within(n, 0, 200)) {
            return -1;
        }
        int done = 0;
        for (int end = tick + n; tick < end; tick++) {
            int p = frame.get(hand()[0])[0];
            if (running[p] && tick >= waitedUntil) {
                done++;
                int fault = step(p);
                if (fault > 0) {
                    faults[p]++;
                    answer(p, fault);
                }
            }
        }
        return done;
    }

    private void answer(int p, int fault) {
        if (actions[p][fault] == 0) {
            running[p] = false;
        } else if (actions[p][fault] == 2) {
            places[p] = fault == 4 ? 0 : places[p] + 1;
        } else {
            Arrays.fill(registers[p], 0);
            places[p] = 0;
            Arrays.fill(memory, regions[p][0], regions[p][0] + regions[p][1], 0);
            links.stream().filter(l -> l.to == p).forEach(PlainDesk::empty);
        }
    }

    private int step(int p) {
        if (!within(places[p], 0, 15)) {
            return 4;
        }
        int[] instruction = programs[p][places[p]];
        int op = instruction[0];
        int a = instruction[1];
        int b = instruction[2];
        int x = ((a % 4) + 4) % 4;
        int y = ((b % 4) + 4) % 4;
        int[] r = registers[p];
        int next = places[p] + 1;
        if (op == 1) {
            r[x] = b;
        } else if (op == 2) {
            r[x] += r[y];
        } else if (op == 3) {
            r[x] -= r[y];
        } else if (op == 4) {
            r[x] ^= r[y];
        } else if (op == 5 || op == 6) {
            if (!within(r[y], 0, regions[p][1] - 1)) {
                return 1;
            }
            int word = regions[p][0] + r[y];
            if (op == 5) {
                r[x] = memory[word];
            } else {
                memory[word] = r[x];
            }
        } else if (op == 7 || op == 8 && r[x] != 0) {
            next = b;
        } else if (op == 9) {
            if (!within(a, 0, links.size() - 1) || links.get(a).from != p) {
                return 2;
            }
            send(links.get(a), r, y);
        } else if (op == 10) {
            if (!within(a, 0, links.size() - 1) || links.get(a).to != p) {
                return 2;
            }
            receive(links.get(a), r, y);
        } else if (op == 11) {
            Integer value = inputs.get(p).pollFirst();
            r[x] = value == null ? 0 : value;
            r[3] = value == null ? 0 : 1;
        } else if (op == 12) {
            outputs.get(p).add(r[x]);
        } else if (op == 13) {
            int[] hand = hand();
            waitedUntil = tick + frame.get(hand[0])[1] - hand[1];
        } else if (op == 14) {
            running[p] = false;
        } else if (op != 0 && op != 8) {
            return 3;
        }
        places[p] = next;
        return 0;
    }

    private void send(Link link, int[] r, int y) {
        if (link.depth == 0) {
            link.sample = r[y];
            link.sampleTick = tick;
        } else if (link.queue.size() == link.depth) {
            r[3] = 0;
        } else {
            link.queue.addLast(r[y]);
            r[3] = 1;
        }
    }

    private void receive(Link link, int[] r, int y) {
        if (link.depth == 0) {
            if (link.sample == null) {
                r[3] = -1;
            } else {
                r[y] = link.sample;
                r[3] = Math.min(99, tick - link.sampleTick);
            }
        } else if (link.queue.isEmpty()) {
            r[3] = 0;
        } else {
            r[y] = link.queue.removeFirst();
            r[3] = 1;
        }
    }

    int output(int p, int i) {
        return within(p, 0, 3) && within(i, 0, 15) && i < outputs.get(p).size() ? outputs.get(p).get(i) : 0;
    }

    int about(int p, int w) {
        if (!within(p, 0, 3) || !within(w, 0, 8)) {
            return -1;
        }
        if (w < 4) {
            return registers[p][w];
        }
        int[] rest = {places[p], running[p] ? 1 : 0, faults[p], outputs.get(p).size(), inputs.get(p).size()};
        return rest[w - 4];
    }

    int word(int i) {
        return within(i, 0, 63) ? memory[i] : 0;
    }

    int waiting(int port) {
        if (!within(port, 0, links.size() - 1)) {
            return -1;
        }
        Link link = links.get(port);
        return link.depth > 0 ? link.queue.size() : link.sample == null ? 0 : 1;
    }

    int clock(int what) {
        if (!started || !within(what, 0, 2)) {
            return -1;
        }
        return what == 2 ? tick : hand()[what];
    }
}
