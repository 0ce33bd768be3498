/** Wrap-arounds: of times, ids and numbers, on both sides, and the windows where numbers go round. */
public final class WrapTest {
    private static final int LEAST = Integer.MIN_VALUE;
    private static final int MOST = Integer.MAX_VALUE;
    /** By kind, 0 to 2: 2^b, and the first and last number of a window, seen from v. */
    private static final int[] STEP = {16, 64, 1024};
    private static final int[] FIRST = {-1, -3, -31};
    private static final int[] LAST = {14, 60, 992};
    private static final int[] BITS = {3, 7, 8};
    private static final int[] STARTS = {0, 1, 2, 3, 14, 30, 31, 32, 60, 100, 992, 1023, 32768, 64543,
        64544, 65475, 65476, 65504, 65520, 65521, 65522, 65534, 65535};

    public static void main(String[] args) {
        promise4PhaseGoesRound();
        promise4TimesGoRound();
        promise10TimesGoRound();
        promise4OffsetGoesRound();
        promise10IdsGoRound();
        promise4And10NumbersGoRound();
        promise4WindowsOfTheSendingSide();
        promise10WindowsOfLast();
        promise10WindowsOfFormer();
        promise10LastBeforeFurtherBeforeFormer();
        Check.end();
    }

    private static void promise4PhaseGoesRound() {
        duePhase(0, 65535, LEAST, LEAST);
        duePhase(65535, 0, MOST, MOST);
        duePhase(65535, 65535, 0, 131071);
        duePhase(65535, 65535, LEAST, -2147352577);
        duePhase(65535, 65535, -131071, 0);
        duePhase(65535, 32768, 0, -2147450880);
        duePhase(65535, 32769, 0, 2147450881);
        duePhase(1, 1, LEAST, MOST);
        duePhase(1, 65535, LEAST + 65534, MOST);
        duePhase(1, 65535, LEAST + 65535, LEAST);
    }

    private static void duePhase(int stride, int number, int time, int phase) {
        HeaderSqueeze x = new HeaderSqueeze();
        x.stride(2, stride);
        x.send(2, number, time, 0);
        Check.due("phase of " + time + " - " + number + " * " + stride, x.sender(2, 3), phase);
    }

    private static void promise4TimesGoRound() {
        HeaderSqueeze x = new HeaderSqueeze();
        x.stride(1, 65535);
        int time = MOST - 2 * 65535;
        for (int n = 0; n < 8; n++) {
            Check.due("time " + time, x.send(1, n, time, n), n < 3 ? 4 : 0);
            Check.due("phase of time " + time, x.sender(1, 3), MOST - 2 * 65535);
            time = time > MOST - 65535 ? LEAST + (time - (MOST - 65535)) - 1 : time + 65535;
        }
        Check.due("the fourth time is far below 0", x.send(1, 8, LEAST, 8), 11);
    }

    private static void promise10TimesGoRound() {
        HeaderSqueeze x = new HeaderSqueeze();
        x.stride(1, 65535);
        int[] times = {MOST - 65535 * 2, MOST - 65535, MOST, LEAST + 65534, LEAST + 131069};
        for (int n = 0; n < 5; n++) {
            Check.due("time " + times[n], x.send(1, n, times[n], n), n < 3 ? 4 : 0);
            Check.due("time " + times[n], x.deliver(0), 1);
            Check.dueMade("time " + times[n], x, Check.head(0, 0, false, n, times[n], n));
        }
        HeaderSqueeze high = new HeaderSqueeze();
        high.stride(0, 65535);
        for (int n = 65532; n <= 65535; n++) {
            int time = -131071 - (65535 - n) * 65535;
            Check.due("number " + n, high.send(0, n, time, n), n < 65535 ? 4 : 0);
            Check.due("phase of number " + n, high.sender(0, 3), 0);
            Check.due("number " + n, high.deliver(0), 0);
        }
        Check.dueMade("65535 * 65535", high, 0, 0, 0, 255, 255, 255, 254, 0, 1, 255, 255);
    }

    private static void promise4OffsetGoesRound() {
        int[][] due = {{0, 0, 0}, {0, 65535, 65535}, {65535, 65535, 0}, {65535, 0, 1}, {1, 0, 65535},
            {65535, 65534, 65535}, {32768, 0, 32768}};
        for (int[] row : due) {
            HeaderSqueeze x = new HeaderSqueeze();
            x.send(3, row[0], 0, row[1]);
            Check.due("offset of id " + row[1] + ", number " + row[0], x.sender(3, 4), row[2]);
        }
    }

    private static void promise10IdsGoRound() {
        HeaderSqueeze x = new HeaderSqueeze();
        int[] ids = {65532, 65533, 65534, 65535, 0, 1};
        for (int n = 0; n < 6; n++) {
            Check.due("id " + ids[n], x.send(2, 10 + n, 0, ids[n]), n < 3 ? 4 : 0);
            Check.due("offset of id " + ids[n], x.sender(2, 4), 65522);
            Check.due("id " + ids[n], x.deliver(0), 2);
            Check.dueMade("id " + ids[n], x, Check.head(0, 0, false, 10 + n, 0, ids[n]));
        }
    }

    private static void promise4And10NumbersGoRound() {
        HeaderSqueeze x = new HeaderSqueeze();
        x.stride(2, 1000);
        int[] numbers = {65532, 65533, 65534, 65535, 0, 1};
        for (int n = 0; n < 6; n++) {
            int time = 5 + numbers[n] * 1000;
            Check.due("number " + numbers[n], x.send(2, numbers[n], time, 3 + n), n < 3 ? 4 : 0);
            Check.dueSender("number " + numbers[n], x, 2, n < 2 ? 0 : 2, n < 2 ? n + 1 : n - 2,
                    Math.max(0, n - 2), 5, 7);
            Check.due("number " + numbers[n], x.deliver(0), 2);
            Check.dueMade("number " + numbers[n], x, Check.head(0, 0, false, numbers[n], time, 3 + n));
        }
        HeaderSqueeze y = new HeaderSqueeze();
        y.stride(2, 1000);
        for (int number : new int[] {65533, 65534, 65535}) {
            y.send(2, number, 5 + number * 1000, number);
        }
        Check.due("the time does not go on behind 65535", y.send(2, 0, 5 + 65536 * 1000, 0), 3);
    }

    private static void promise4WindowsOfTheSendingSide() {
        int[] aheads = {-32768, -1000, -33, -32, -31, -30, -5, -4, -3, -2, -1, 0, 1, 13, 14, 15, 16, 59, 60, 61,
            62, 991, 992, 993, 994, 32767};
        for (int v : STARTS) {
            for (int ahead : aheads) {
                dueKind(v, ahead, false);
                dueKind(v, ahead, true);
            }
        }
    }

    private static void dueKind(int v, int ahead, boolean mark) {
        int kind = mark ? 1 : 0;
        while (kind < 3 && (ahead < FIRST[kind] || ahead > LAST[kind])) {
            kind++;
        }
        HeaderSqueeze x = new HeaderSqueeze();
        for (int i = 0; i < 3; i++) {
            x.send(0, v, 0, v);
        }
        x.head(0, 0, mark);
        int number = Math.floorMod(v + ahead, 65536);
        String what = "behind " + v + ", " + ahead + " ahead" + (mark ? ", mark" : "");
        Check.due(what, x.send(0, number, 0, number), kind);
        Check.duePacket(what, x, 3, Check.packet(0, kind, 0, Check.head(0, 0, mark, number, 0, number)));
        Check.due(what + ", delivered", deliverBehindTheFirst(x), 0);
        Check.dueMade(what, x, Check.head(0, 0, mark, number, 0, number));
    }

    private static int deliverBehindTheFirst(HeaderSqueeze x) {
        x.deliver(0);
        return x.deliver(2);
    }

    /** A context of stride 160, address 4660, type 97, offset 40000: heads of any number go along. */
    private static int[] along(int phase, boolean mark, int number) {
        return Check.head(4660, 97, mark, number, phase + number * 160, (number + 40000) % 65536);
    }

    private static int sum(int kind, int phase, boolean mark, int number) {
        return Check.sum(BITS[kind], along(phase, mark, number));
    }

    private static int round(int number) {
        return Math.floorMod(number, 65536);
    }

    /** The number that a window of the receiving side finds for this one. */
    private static int found(int kind, int from, int number) {
        int ahead = Math.floorMod(number - from, STEP[kind]);
        return round(from + (ahead > LAST[kind] ? ahead - STEP[kind] : ahead));
    }

    /** A phase by which no other number that is tried has the sum of this one. */
    private static int phaseFor(int kind, boolean mark, int number, int last, int former) {
        int near = found(kind, last, number);
        int[] tried = {near, round(near + STEP[kind]), found(kind, former, number)};
        for (int phase = 1000; phase < 100000; phase++) {
            boolean alone = true;
            for (int other : tried) {
                alone &= other == number
                        || sum(kind, phase, mark, other) != sum(kind, phase, mark, number);
            }
            if (alone) {
                return phase;
            }
        }
        throw new IllegalStateException("no phase tells the numbers apart");
    }

    /** FORMER and LAST are these, and then a packet of a kind comes with a number. */
    private static void dueComes(int kind, int former, int last, int number, String want) {
        boolean mark = kind == 2 || kind == 1 && number % 2 == 0;
        int phase = phaseFor(kind, mark, number, last, former);
        HeaderSqueeze x = Check.stocked(1);
        Check.comes(x, Check.packet(1, 4, 160, along(phase, false, former)));
        Check.comes(x, Check.packet(1, 3, 160, along(phase, false, last)));
        String what = "kind " + kind + ", FORMER " + former + ", LAST " + last + ", number " + number;
        int[] head = along(phase, mark, number);
        Check.dueText(what, Check.comes(x, Check.packet(1, kind, 160, head)), want);
        boolean made = !want.startsWith("throws");
        Check.dueMade(what, x, made ? head : along(phase, false, last));
        Check.dueReceiver(what, x, 1, 2, made ? number : last, made ? last : former, made ? 0 : 1);
        Check.due(what + ", repaired", x.count(7), want.equals("5") ? 1 : 0);
        Check.due(what + ", failed", x.count(10), made ? 0 : 1);
    }

    private static void promise10WindowsOfLast() {
        for (int kind = 0; kind <= 2; kind++) {
            int first = FIRST[kind];
            int last = LAST[kind];
            int step = STEP[kind];
            for (int from : STARTS) {
                for (int ahead : new int[] {first, first + 1, 0, 1, last - 1, last}) {
                    dueComes(kind, from, from, round(from + ahead), "1");
                }
                for (int ahead : new int[] {last + 1, last + 2, step, last + step}) {
                    dueComes(kind, from, from, round(from + ahead), "5");
                }
                for (int ahead : new int[] {first - step, first - 1, last + step + 1, 32768}) {
                    dueComes(kind, from, from, round(from + ahead), "throws.ArithmeticException");
                }
            }
        }
    }

    private static void promise10WindowsOfFormer() {
        for (int kind = 0; kind <= 2; kind++) {
            int first = FIRST[kind];
            int last = LAST[kind];
            int step = STEP[kind];
            for (int from : STARTS) {
                int far = round(from + 30000);
                for (int ahead : new int[] {first, first + 1, 0, 1, last - 1, last}) {
                    dueComes(kind, from, far, round(from + ahead), "5");
                }
                for (int ahead : new int[] {first - step, first - 1, last + 1, last + step}) {
                    dueComes(kind, from, far, round(from + ahead), "throws.ArithmeticException");
                }
            }
        }
    }

    /** Each time two of the three numbers tried have the packet's sum; FORMER lies 20 windows behind LAST. */
    private static void promise10LastBeforeFurtherBeforeFormer() {
        for (int kind = 0; kind <= 2; kind++) {
            int step = STEP[kind];
            int back = -20 * step;
            int[] near = alike(kind, 0, step, back);
            dueFirst(kind, near, near[0], "2");
            near = alike(kind, 0, back, step);
            dueFirst(kind, near, near[0], "2");
            near = alike(kind, step, back, 0);
            dueFirst(kind, near, near[0] + step, "6");
        }
    }

    /** A number and a phase, by which two heads so far from the number have the same sum, and a third another. */
    private static int[] alike(int kind, int one, int two, int third) {
        for (int number = 21000; number < 60000; number++) {
            for (int phase = 0; phase < 1 << 30; phase += 30999001) {
                int sum = sum(kind, phase, false, number + one);
                if (sum == sum(kind, phase, false, number + two)
                        && sum != sum(kind, phase, false, number + third)) {
                    return new int[] {number, phase};
                }
            }
        }
        throw new IllegalStateException("no two numbers with the same sum");
    }

    private static void dueFirst(int kind, int[] lastAndPhase, int number, String want) {
        int last = lastAndPhase[0];
        int phase = lastAndPhase[1];
        HeaderSqueeze x = Check.stocked(2);
        Check.comes(x, Check.packet(2, 4, 160, along(phase, false, last - 20 * STEP[kind])));
        Check.comes(x, Check.packet(2, 3, 160, along(phase, false, last)));
        String what = "kind " + kind + ", number " + number + " of two with this sum";
        Check.dueText(what, Check.comes(x, Check.packet(2, kind, 160, along(phase, false, number))), want);
        Check.dueMade(what, x, along(phase, false, number));
        Check.dueReceiver(what, x, 2, 2, number, last, 0);
    }
}
