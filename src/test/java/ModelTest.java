import java.util.ArrayList;
import java.util.Arrays;
import java.util.List;

/**
 * All promises: the program and a second, plain writing of the document get the same
 * runs of at most 512 calls, and must give the same answers. The runs are drawn from a
 * fixed row of numbers, so that each time they are the same.
 */
public final class ModelTest {
    private static final int RUNS = 4500;
    private static final int CALLS = 512;
    /** The eleven counts at the end, and the three calls that one turn may make. */
    private static final int CALLS_KEPT = 11 + 3;

    private static long drawn = 20261119;

    public static void main(String[] args) {
        int[] seen = new int[11];
        for (int run = 0; run < RUNS; run++) {
            int[] counts = oneRun(run);
            for (int i = 0; i < 11; i++) {
                seen[i] += counts[i];
            }
        }
        for (int i = 0; i < 11; i++) {
            Check.due("runs meet what count(" + i + ") counts", seen[i] >= 1000 ? 1 : 0, 1);
        }
        Check.end();
    }

    private static int draw(int bound) {
        drawn = (drawn * 6364136223846793005L + 1442695040888963407L);
        return (int) ((drawn >>> 33) % bound);
    }

    private static boolean oneIn(int n) {
        return draw(n) == 0;
    }

    /** What heads of a flow look like just now; they change at times. */
    private static final class Source {
        int address = draw(3);
        int type = draw(2) * 127;
        int stride = draw(4) == 0 ? 65535 : draw(300);
        int number = oneIn(2) ? 65500 + draw(36) : draw(65536);
        int phase = draw(1 << 30) * 4;
        int offset = draw(65536);

        void goOn() {
            if (oneIn(40)) {
                phase += draw(1000);
            }
            if (oneIn(60)) {
                offset = draw(65536);
            }
            if (oneIn(150)) {
                type = 127 - type;
            }
            int step = oneIn(8) ? draw(70) - 5 : oneIn(20) ? draw(1300) - 40 : oneIn(60) ? draw(65536) : 1;
            number = (number + step) & 65535;
        }
    }

    private static int[] oneRun(int run) {
        HeaderSqueeze x = new HeaderSqueeze();
        Model m = new Model();
        Source[] sources = {new Source(), new Source(), new Source(), new Source()};
        int flows = 1 + draw(4);
        int losses = 2 + draw(12);
        int spoils = 3 + draw(30);
        boolean marks = oneIn(2);
        int calls = 0;
        while (calls <= CALLS - CALLS_KEPT) {
            calls++;
            int what = draw(20);
            int flow = oneIn(150) ? draw(7) - 1 : draw(flows);
            if (what < 7) {
                Source s = sources[flow & 3];
                s.goOn();
                boolean mark = marks && oneIn(3);
                int stride = oneIn(200) ? draw(70000) - 2000 : s.stride;
                int type = oneIn(100) ? draw(140) - 5 : s.type;
                int number = oneIn(200) ? draw(70000) - 2000 : s.number;
                int id = oneIn(200) ? draw(70000) - 2000 : (s.number + s.offset) & 65535;
                int time = s.phase + s.number * s.stride;
                same(run, "stride", () -> { x.stride(flow, stride); return 0; }, () -> m.stride(flow, stride));
                same(run, "head", () -> { x.head(s.address, type, mark); return 0; },
                        () -> m.head(s.address, type, mark));
                same(run, "send", () -> x.send(flow, number, time, id), () -> m.send(flow, number, time, id));
                calls += 2;
            } else if (what < 12) {
                int k = oneIn(10) ? draw(10) - 1 : 0;
                same(run, "deliver", () -> x.deliver(k), () -> m.deliver(k));
                int i = oneIn(30) ? draw(15) - 2 : draw(11);
                same(run, "made", () -> x.made(i), () -> m.made(i));
                calls++;
            } else if (what == 12 && oneIn(losses)) {
                int k = draw(9) - (oneIn(20) ? 1 : 0);
                same(run, "lose", () -> { x.lose(k); return 0; }, () -> m.lose(k));
            } else if (what == 13 && oneIn(spoils)) {
                int k = draw(3);
                int i = oneIn(2) ? draw(3) : draw(19) - 1;
                int bits = oneIn(2) ? 1 << draw(8) : oneIn(20) ? draw(300) - 20 : draw(256);
                same(run, "spoil", () -> { x.spoil(k, i, bits); return 0; }, () -> m.spoil(k, i, bits));
            } else {
                ask(run, x, m, flow);
            }
        }
        int[] counts = new int[11];
        for (int which = 0; which < 11; which++) {
            int w = which;
            same(run, "count at the end", () -> x.count(w), () -> m.count(w));
            counts[which] = m.counts[which];
        }
        return counts;
    }

    private static void ask(int run, HeaderSqueeze x, Model m, int flow) {
        int which = oneIn(50) ? draw(20) - 5 : draw(5);
        int k = oneIn(20) ? draw(12) - 2 : draw(3);
        int i = oneIn(20) ? draw(22) - 2 : draw(4);
        switch (draw(6)) {
            case 0:
                same(run, "line", () -> x.line(), () -> m.line.size());
                break;
            case 1:
                same(run, "size", () -> x.size(k), () -> m.size(k));
                break;
            case 2:
                same(run, "byteAt", () -> x.byteAt(k, i), () -> m.byteAt(k, i));
                break;
            case 3:
                same(run, "sender", () -> x.sender(flow, which), () -> m.sender(flow, which));
                break;
            case 4:
                same(run, "receiver", () -> x.receiver(flow, which), () -> m.receiver(flow, which));
                break;
            default:
                same(run, "count", () -> x.count(which * 2), () -> m.count(which * 2));
                break;
        }
    }

    private static void same(int run, String what, Check.Call program, Check.Call model) {
        Check.dueText("run " + run + ": " + what, Check.answer(program), Check.answer(model));
    }

    /** Written from the document alone, with lists and longs, heads as rows of six. */
    private static final class Model {
        static final int[] B = {4, 6, 10};
        static final int[] P = {1, 3, 31};
        static final int[] SUM = {3, 7, 8};

        int address;
        int type;
        boolean mark;
        final List<int[]> line = new ArrayList<>();
        final int[] counts = new int[11];
        int[] made = new int[11];

        // the sending side, by flow; a context is address, type, stride, phase, offset
        final long[][] sent = new long[4][];
        final int[] wished = new int[4];
        final int[] state = new int[4];
        final int[] sentInState = new int[4];
        final int[] age = new int[4];
        final List<List<Integer>> numbers = new ArrayList<>();

        // the receiving side, by flow
        final long[][] known = new long[4][];
        final int[] level = new int[4];
        final int[] last = new int[4];
        final int[] former = new int[4];
        final int[] failed = new int[4];

        Model() {
            for (int i = 0; i < 4; i++) {
                numbers.add(new ArrayList<>());
            }
        }

        static void index(boolean holds) {
            if (!holds) {
                throw new IndexOutOfBoundsException();
            }
        }

        static void argument(boolean holds) {
            if (!holds) {
                throw new IllegalArgumentException();
            }
        }

        long stride(int flow, int stride) {
            index(flow >= 0 && flow <= 3);
            argument(stride >= 0 && stride <= 65535);
            wished[flow] = stride;
            return 0;
        }

        long head(int newAddress, int newType, boolean newMark) {
            argument(newAddress >= 0 && newAddress <= 65535 && newType >= 0 && newType <= 127);
            address = newAddress;
            type = newType;
            mark = newMark;
            return 0;
        }

        static long[] contextOf(int[] head, long stride) {
            long number = head[3] * 256 + head[4];
            long time = (long) head[5] << 24 | head[6] << 16 | head[7] << 8 | head[8];
            long id = head[9] * 256 + head[10];
            return new long[] {head[0] * 256 + head[1], head[2] & 127, stride,
                (int) (time - number * stride), Math.floorMod(id - number, 65536L)};
        }

        static int[] headOf(long[] context, boolean mark, long number) {
            long time = context[3] + number * context[2];
            return Check.head((int) context[0], (int) context[1], mark, (int) number, (int) time,
                    (int) ((number + context[4]) % 65536));
        }

        long send(int flow, int number, int time, int id) {
            index(flow >= 0 && flow <= 3);
            argument(number >= 0 && number <= 65535 && id >= 0 && id <= 65535);
            int[] head = Check.head(address, type, mark, number, time, id);
            long[] before = sent[flow];
            sent[flow] = contextOf(head, wished[flow]);
            if (before == null || !Arrays.equals(Arrays.copyOf(before, 3), Arrays.copyOf(sent[flow], 3))
                    || age[flow] == 20) {
                state[flow] = 0;
                sentInState[flow] = 0;
            } else if (!Arrays.equals(before, sent[flow])) {
                state[flow] = state[flow] == 0 ? 0 : 1;
                sentInState[flow] = 0;
            }
            int kind = state[flow] == 0 ? 4 : state[flow] == 1 ? 3 : small(flow, number);
            int[] packet = packet(flow, kind, head, number);
            numbers.get(flow).add(number);
            age[flow] = kind == 4 ? 0 : age[flow] + 1;
            sentInState[flow]++;
            if (state[flow] < 2 && sentInState[flow] == 3) {
                state[flow] = 2;
                sentInState[flow] = 0;
            }
            counts[kind]++;
            counts[5] += packet.length;
            if (line.size() == 8) {
                return kind + 8;
            }
            line.add(packet);
            return kind;
        }

        int small(int flow, int number) {
            for (int kind = mark ? 1 : 0; kind < 3; kind++) {
                List<Integer> all = numbers.get(flow);
                boolean enough = true;
                for (int v : all.subList(Math.max(0, all.size() - 4), all.size())) {
                    boolean found = false;
                    for (int n = v - P[kind]; n <= v - P[kind] + (1 << B[kind]) - 1; n++) {
                        found |= Math.floorMod(n, 65536) == number;
                    }
                    enough &= found;
                }
                if (enough) {
                    return kind;
                }
            }
            return 3;
        }

        int[] packet(int flow, int kind, int[] head, int number) {
            List<Integer> bytes = new ArrayList<>();
            if (flow != 0) {
                bytes.add(224 + flow);
            }
            int marked = mark ? 128 : 0;
            if (kind == 0) {
                bytes.add(number % 16 * 8 + Check.sum(3, head));
            } else if (kind == 1) {
                bytes.addAll(List.of(128 + number % 64, marked + Check.sum(7, head)));
            } else if (kind == 2) {
                int s = number % 1024;
                bytes.addAll(List.of(192 + s / 32, s % 32 * 8 + marked / 32, Check.sum(8, head)));
            } else {
                int stride = wished[flow];
                if (kind == 3) {
                    bytes.add(248);
                } else {
                    bytes.addAll(List.of(253, head[0], head[1], type, stride / 256, stride % 256));
                }
                bytes.add(marked);
                for (int i = 3; i < 11; i++) {
                    bytes.add(head[i]);
                }
                bytes.add(kind == 3 ? Check.sum(8, head) : wholeSum(head, stride));
            }
            return bytes.stream().mapToInt(i -> i).toArray();
        }

        static int wholeSum(int[] head, int stride) {
            int[] all = Arrays.copyOf(head, 13);
            all[11] = stride / 256;
            all[12] = stride % 256;
            return Check.sum(8, all);
        }

        long size(int k) {
            index(k >= 0 && k < line.size());
            return line.get(k).length;
        }

        long byteAt(int k, int i) {
            index(i >= 0 && i < size(k));
            return line.get(k)[i];
        }

        long spoil(int k, int i, int m) {
            index(i >= 0 && i < size(k));
            argument(m >= 0 && m <= 255);
            line.get(k)[i] ^= m;
            return 0;
        }

        long lose(int k) {
            index(k >= 0 && k < line.size());
            line.remove(k);
            return 0;
        }

        long deliver(int k) {
            index(k >= 0 && k < line.size());
            int[] packet = line.remove(k);
            int flow = packet[0] >= 225 && packet[0] <= 227 ? packet[0] - 224 : 0;
            int[] bytes = flow == 0 ? packet : Arrays.copyOfRange(packet, 1, packet.length);
            int kind = kindOf(bytes);
            if (kind < 0) {
                counts[8]++;
                throw new IllegalArgumentException();
            }
            if (kind == 3 && level[flow] == 0 || kind < 3 && level[flow] < 2) {
                counts[9]++;
                throw new IllegalStateException();
            }
            int which = kind < 3 ? tryNumbers(flow, kind, bytes) : tryWhole(flow, kind, bytes);
            if (which == 0) {
                counts[10]++;
                failed[flow]++;
                if (failed[flow] == 3) {
                    failed[flow] = 0;
                    level[flow] = level[flow] == 0 ? 0 : level[flow] - 1;
                }
                throw new ArithmeticException();
            }
            int number = made[3] * 256 + made[4];
            former[flow] = level[flow] == 0 ? number : last[flow];
            last[flow] = number;
            level[flow] = 2;
            failed[flow] = 0;
            counts[6]++;
            counts[7] += which > 1 ? 1 : 0;
            return which > 1 ? flow + 4 : flow;
        }

        static int kindOf(int[] b) {
            if (b.length == 1 && b[0] < 128) {
                return 0;
            }
            if (b.length == 2 && b[0] >= 128 && b[0] < 192) {
                return 1;
            }
            if (b.length == 3 && b[0] >= 192 && b[0] < 224 && b[1] % 4 == 0) {
                return 2;
            }
            if (b.length == 11 && b[0] == 248 && b[1] % 128 == 0) {
                return 3;
            }
            return b.length == 16 && b[0] == 253 && b[3] < 128 && b[6] % 128 == 0 ? 4 : -1;
        }

        /** Answers 0 if no head is made, else 1. */
        int tryWhole(int flow, int kind, int[] b) {
            int[] head = new int[11];
            int front = kind == 3 ? 1 : 6;
            for (int i = 3; i < 11; i++) {
                head[i] = b[front + i - 2];
            }
            int knownAddress = kind == 3 ? (int) known[flow][0] : b[1] * 256 + b[2];
            head[0] = knownAddress / 256;
            head[1] = knownAddress % 256;
            head[2] = (kind == 3 ? (int) known[flow][1] : b[3]) + b[front];
            int stride = kind == 3 ? (int) known[flow][2] : b[4] * 256 + b[5];
            int sum = kind == 3 ? Check.sum(8, head) : wholeSum(head, stride);
            if (sum != b[b.length - 1]) {
                return 0;
            }
            made = head;
            known[flow] = contextOf(head, stride);
            return 1;
        }

        /** Answers 0 if no head is made, else the how manyth number did. */
        int tryNumbers(int flow, int kind, int[] b) {
            int s = kind == 0 ? b[0] / 8 : kind == 1 ? b[0] - 128 : (b[0] - 192) * 32 + b[1] / 8;
            boolean marked = kind == 1 && b[1] >= 128 || kind == 2 && b[1] / 4 % 2 == 1;
            int sum = kind == 0 ? b[0] % 8 : kind == 1 ? b[1] % 128 : b[2];
            int near = numberNear(kind, last[flow], s);
            int[] tried = {near, (near + (1 << B[kind])) % 65536, numberNear(kind, former[flow], s)};
            for (int i = 0; i < 3; i++) {
                int[] head = headOf(known[flow], marked, tried[i]);
                if (Check.sum(SUM[kind], head) == sum) {
                    made = head;
                    return i + 1;
                }
            }
            return 0;
        }

        static int numberNear(int kind, int reference, int s) {
            int number = reference - P[kind];
            while (Math.floorMod(number, 1 << B[kind]) != s) {
                number++;
            }
            return Math.floorMod(number, 65536);
        }

        long made(int i) {
            index(i >= 0 && i < 11);
            return made[i];
        }

        long sender(int flow, int which) {
            index(flow >= 0 && flow <= 3);
            argument(which >= 0 && which <= 4);
            if (which > 2) {
                return sent[flow] == null ? 0 : sent[flow][which];
            }
            return which == 0 ? state[flow] : which == 1 ? sentInState[flow] : age[flow];
        }

        long receiver(int flow, int which) {
            index(flow >= 0 && flow <= 3);
            argument(which >= 0 && which <= 3);
            return which == 0 ? level[flow] : which == 1 ? last[flow] : which == 2 ? former[flow] : failed[flow];
        }

        long count(int which) {
            argument(which >= 0 && which <= 10);
            return counts[which];
        }
    }
}
