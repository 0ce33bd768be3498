import java.util.Arrays;

/** What the tests share: counting wrong answers, and the sums as the document tells them. */
final class Check {
    interface Call {
        long answer();
    }

    private static int wrong;

    private Check() { }

    static void due(String what, long got, long want) {
        if (got != want) {
            wrong++;
            System.out.println(what + ": answered " + got + ", due is " + want);
        }
    }

    static void dueText(String what, String got, String want) {
        if (!got.equals(want)) {
            wrong++;
            System.out.println(what + ": answered " + got + ", due is " + want);
        }
    }

    static void dueThrow(String what, Class<? extends RuntimeException> want, Call call) {
        dueText(what, answer(call), "throws." + want.getSimpleName());
    }

    /** The answer of a call as a text, or what it throws. */
    static String answer(Call call) {
        try {
            return Long.toString(call.answer());
        } catch (RuntimeException e) {
            return "throws." + e.getClass().getSimpleName();
        }
    }

    static int sum(int bits, int... bytes) {
        int change = bits == 3 ? 6 : bits == 7 ? 121 : 224;
        int sum = (1 << bits) - 1;
        for (int one : bytes) {
            for (int bit = 0; bit < 8; bit++) {
                sum = (sum % 2) == (one >> bit) % 2 ? sum / 2 : (sum / 2) ^ change;
            }
        }
        return sum;
    }

    static int[] head(int address, int type, boolean mark, int number, int time, int id) {
        return new int[] {
            address / 256, address % 256, mark ? type + 128 : type, number / 256, number % 256,
            (time >> 24) & 255, (time >> 16) & 255, (time >> 8) & 255, time & 255, id / 256, id % 256};
    }

    static void duePacket(String what, HeaderSqueeze x, int k, int... want) {
        due(what + ", size", x.size(k), want.length);
        for (int i = 0; i < want.length && i < x.size(k); i++) {
            due(what + ", byte " + i, x.byteAt(k, i), want[i]);
        }
    }

    static void dueMade(String what, HeaderSqueeze x, int... want) {
        for (int i = 0; i < 11; i++) {
            due(what + ", byte " + i + " of the head made", x.made(i), want[i]);
        }
    }

    /** The five that can be asked of the sending side of a flow. */
    static void dueSender(String what, HeaderSqueeze x, int flow, int... want) {
        for (int which = 0; which < want.length; which++) {
            due(what + ", sender(" + flow + ", " + which + ")", x.sender(flow, which), want[which]);
        }
    }

    static void dueReceiver(String what, HeaderSqueeze x, int flow, int... want) {
        for (int which = 0; which < want.length; which++) {
            due(what + ", receiver(" + flow + ", " + which + ")", x.receiver(flow, which), want[which]);
        }
    }

    static void dueCounts(String what, HeaderSqueeze x, int... want) {
        for (int which = 0; which < want.length; which++) {
            due(what + ", count(" + which + ")", x.count(which), want[which]);
        }
    }

    /** The packet that a head is sent as; the stride is of use for kind 4 alone. */
    static int[] packet(int flow, int kind, int stride, int... head) {
        int number = head[3] * 256 + head[4];
        int marked = head[2] / 128 * 128;
        int[] end = Arrays.copyOfRange(head, 3, 11);
        switch (kind) {
            case 0:
                return ofFlow(flow, number % 16 * 8 + sum(3, head));
            case 1:
                return ofFlow(flow, 128 + number % 64, marked + sum(7, head));
            case 2:
                return ofFlow(flow, 192 + number % 1024 / 32, number % 32 * 8 + marked / 32, sum(8, head));
            case 3:
                return ofFlow(flow, joined(joined(new int[] {248, marked}, end), sum(8, head)));
            default:
                int[] front = {253, head[0], head[1], head[2] % 128, stride / 256, stride % 256, marked};
                int sum = sum(8, joined(head, stride / 256, stride % 256));
                return ofFlow(flow, joined(joined(front, end), sum));
        }
    }

    static int[] ofFlow(int flow, int... own) {
        return flow == 0 ? own : joined(new int[] {224 + flow}, own);
    }

    static int[] joined(int[] front, int... end) {
        int[] all = Arrays.copyOf(front, front.length + end.length);
        System.arraycopy(end, 0, all, front.length, end.length);
        return all;
    }

    /** In a flow in which nothing was sent yet: packets of kinds 4, 4, 4, 0, 1, 2, 3, 3 for the line. */
    static void stock(HeaderSqueeze x, int flow) {
        for (int number : new int[] {1, 1, 1, 1, 40, 900, 3000, 9000}) {
            x.send(flow, number, 0, number);
        }
    }

    static HeaderSqueeze stocked(int flow) {
        HeaderSqueeze x = new HeaderSqueeze();
        stock(x, flow);
        return x;
    }

    /** The first packet of the line with as many bytes is spoilt till it has these, and delivered. */
    static String comes(HeaderSqueeze x, int... bytes) {
        int found = 0;
        while (found < x.line() && x.size(found) != bytes.length) {
            found++;
        }
        int k = found;
        for (int i = 0; i < bytes.length; i++) {
            int there = x.byteAt(k, i);
            if (there != bytes[i]) {
                x.spoil(k, i, there ^ bytes[i]);
            }
        }
        return answer(() -> x.deliver(k));
    }

    /** All that can be asked of an object: some 200 calls, if the line is full. */
    static String all(HeaderSqueeze x) {
        StringBuilder text = new StringBuilder("line");
        for (int k = 0; k < x.line(); k++) {
            text.append(" packet");
            int size = x.size(k);
            for (int i = 0; i < size; i++) {
                text.append(' ').append(x.byteAt(k, i));
            }
        }
        for (int flow = 0; flow < 4; flow++) {
            text.append(" flow ").append(flow).append(" sender");
            for (int which = 0; which < 5; which++) {
                text.append(' ').append(x.sender(flow, which));
            }
            text.append(" receiver");
            for (int which = 0; which < 4; which++) {
                text.append(' ').append(x.receiver(flow, which));
            }
        }
        text.append(" made");
        for (int i = 0; i < 11; i++) {
            text.append(' ').append(x.made(i));
        }
        text.append(" count");
        for (int which = 0; which < 11; which++) {
            text.append(' ').append(x.count(which));
        }
        return text.toString();
    }

    static void end() {
        System.out.println(wrong == 0 ? "all answers are as due" : wrong + " answers are not as due");
        if (wrong != 0) {
            System.exit(1);
        }
    }
}
