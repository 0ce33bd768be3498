/** Promises 1 to 4 and 12: a new object, stride, head, send, sender. */
public final class SendingTest {
    private static final Class<IndexOutOfBoundsException> INDEX = IndexOutOfBoundsException.class;
    private static final Class<IllegalArgumentException> ARGUMENT = IllegalArgumentException.class;

    public static void main(String[] args) {
        sumsAreTheKnownOnes();
        promise1NewObject();
        promise2StrideComesWithTheNextHead();
        promise2WrongStrides();
        promise3HeadStays();
        promise3WrongHeads();
        promise4FirstPacketsAreWhole();
        promise4KindsByWindows();
        promise4WindowsAreOfTheLastFourNumbers();
        promise4MovedHeads();
        promise4MovedWhileWhole();
        promise4AgeTwenty();
        promise4LostAtOnce();
        promise4WrongSends();
        promise4FlowsAreApart();
        promise12Sender();
        promise12WrongAsking();
        Check.end();
    }

    /** The sums are ROHC's CRC-3, CRC-7, CRC-8, whose check values are published. */
    private static void sumsAreTheKnownOnes() {
        int[] digits = {'1', '2', '3', '4', '5', '6', '7', '8', '9'};
        Check.due("sum of 3 bits", Check.sum(3, digits), 0x6);
        Check.due("sum of 7 bits", Check.sum(7, digits), 0x53);
        Check.due("sum of 8 bits", Check.sum(8, digits), 0xD0);
    }

    private static void promise1NewObject() {
        HeaderSqueeze x = new HeaderSqueeze();
        Check.due("new, line", x.line(), 0);
        for (int flow = 0; flow < 4; flow++) {
            Check.dueSender("new", x, flow, 0, 0, 0, 0, 0);
            Check.dueReceiver("new", x, flow, 0, 0, 0, 0);
        }
        Check.dueMade("new", x, new int[11]);
        Check.dueCounts("new", x, new int[11]);
        Check.dueThrow("new, size(0)", INDEX, () -> x.size(0));
        x.send(0, 5, 5, 5);
        Check.due("another new one", new HeaderSqueeze().line(), 0);
        Check.due("another new one", new HeaderSqueeze().count(4), 0);
    }

    /** Sent with stride 0 and head 0, 0, no mark, until the flow is small. */
    private static HeaderSqueeze smallFlow(int flow, int... numbers) {
        HeaderSqueeze x = new HeaderSqueeze();
        for (int number : numbers) {
            x.send(flow, number, 0, number);
            x.lose(0);
        }
        return x;
    }

    private static void promise2StrideComesWithTheNextHead() {
        HeaderSqueeze x = new HeaderSqueeze();
        x.stride(2, 65535);
        Check.dueSender("stride alone", x, 2, 0, 0, 0, 0, 0);
        x.send(2, 3, 10, 0);
        Check.due("phase", x.sender(2, 3), 10 - 3 * 65535);
        Check.due("higher byte of stride", x.byteAt(0, 5), 255);
        Check.due("lower byte of stride", x.byteAt(0, 6), 255);
        x.stride(2, 258);
        Check.due("phase before the next head", x.sender(2, 3), 10 - 3 * 65535);
        x.send(2, 4, 10, 1);
        Check.due("phase behind the next head", x.sender(2, 3), 10 - 4 * 258);
        Check.due("higher byte of stride", x.byteAt(1, 5), 1);
        Check.due("lower byte of stride", x.byteAt(1, 6), 2);
        Check.dueSender("other stride", x, 2, 0, 1, 0);

        HeaderSqueeze small = smallFlow(0, 1, 2, 3, 4);
        small.stride(0, 7);
        small.stride(0, 0);
        Check.due("stride changed there and back", small.send(0, 5, 0, 5), 0);
        small.stride(1, 7);
        Check.due("stride of another flow", small.send(0, 6, 0, 6), 0);
        small.stride(0, 7);
        Check.due("other stride in state 2", small.send(0, 7, 0, 7), 4);
        Check.dueSender("other stride in state 2", small, 0, 0, 1, 0, -49, 0);
    }

    private static void promise2WrongStrides() {
        HeaderSqueeze x = smallFlow(3, 1, 2, 3);
        Check.dueThrow("stride(-1, 0)", INDEX, () -> { x.stride(-1, 0); return 0; });
        Check.dueThrow("stride(4, 0)", INDEX, () -> { x.stride(4, 0); return 0; });
        Check.dueThrow("stride(4, -1)", INDEX, () -> { x.stride(4, -1); return 0; });
        Check.dueThrow("stride(3, -1)", ARGUMENT, () -> { x.stride(3, -1); return 0; });
        Check.dueThrow("stride(3, 65536)", ARGUMENT, () -> { x.stride(3, 65536); return 0; });
        Check.due("wrong strides change nothing", x.send(3, 4, 0, 4), 0);
    }

    private static void promise3HeadStays() {
        HeaderSqueeze x = new HeaderSqueeze();
        x.head(65535, 127, true);
        x.send(0, 1, 2, 3);
        x.send(1, 1, 2, 3);
        int[] head = Check.head(65535, 127, true, 1, 2, 3);
        int sum = Check.sum(8, 255, 255, 255, 0, 1, 0, 0, 0, 2, 0, 3, 0, 0);
        Check.due("the highest head", head[2], 255);
        Check.duePacket("head", x, 0, 253, 255, 255, 127, 0, 0, 128, 0, 1, 0, 0, 0, 2, 0, 3, sum);
        Check.duePacket("head, for the next", x, 1,
                225, 253, 255, 255, 127, 0, 0, 128, 0, 1, 0, 0, 0, 2, 0, 3, sum);

        HeaderSqueeze small = smallFlow(0, 1, 2, 3);
        small.head(0, 0, true);
        Check.due("a mark alone", small.send(0, 4, 0, 4), 1);
        small.head(0, 0, false);
        Check.due("no mark again", small.send(0, 5, 0, 5), 0);
        small.head(1, 0, false);
        Check.due("other address", small.send(0, 6, 0, 6), 4);
        HeaderSqueeze other = smallFlow(0, 1, 2, 3);
        other.head(0, 1, false);
        Check.due("other type", other.send(0, 4, 0, 4), 4);
        other.head(0, 0, false);
        Check.due("type as before", other.send(0, 5, 0, 5), 4);
        Check.dueSender("type as before", other, 0, 0, 1, 0);
    }

    private static void promise3WrongHeads() {
        HeaderSqueeze x = smallFlow(0, 1, 2, 3);
        Check.dueThrow("address -1", ARGUMENT, () -> { x.head(-1, 5, true); return 0; });
        Check.dueThrow("address 65536", ARGUMENT, () -> { x.head(65536, 5, true); return 0; });
        Check.dueThrow("type -1", ARGUMENT, () -> { x.head(5, -1, true); return 0; });
        Check.dueThrow("type 128", ARGUMENT, () -> { x.head(5, 128, true); return 0; });
        Check.due("wrong heads change nothing", x.send(0, 4, 0, 4), 0);
    }

    private static void promise4FirstPacketsAreWhole() {
        HeaderSqueeze x = new HeaderSqueeze();
        x.stride(0, 160);
        x.head(4660, 97, false);
        for (int n = 1; n <= 3; n++) {
            Check.due("whole " + n, x.send(0, n, 1000 + n * 160, n + 5), 4);
            Check.dueSender("whole " + n, x, 0, n < 3 ? 0 : 2, n % 3, 0, 1000, 5);
        }
        int sum = Check.sum(8, 0x12, 0x34, 97, 0, 1, 0, 0, 4, 136, 0, 6, 0, 160);
        Check.duePacket("kind 4", x, 0, 253, 0x12, 0x34, 97, 0, 160, 0, 0, 1, 0, 0, 4, 136, 0, 6, sum);
        Check.due("the fourth", x.send(0, 4, 1640, 9), 0);
        Check.dueSender("the fourth", x, 0, 2, 1, 1, 1000, 5);
        int[] head = Check.head(4660, 97, false, 4, 1640, 9);
        Check.duePacket("kind 0", x, 3, 4 * 8 + Check.sum(3, head));
    }

    private static void promise4KindsByWindows() {
        kindAt(100, 100, false, 0);
        kindAt(100, 99, false, 0);
        kindAt(100, 98, false, 1);
        kindAt(100, 101, false, 0);
        kindAt(100, 114, false, 0);
        kindAt(100, 115, false, 1);
        kindAt(100, 97, false, 1);
        kindAt(100, 96, false, 2);
        kindAt(100, 160, false, 1);
        kindAt(100, 161, false, 2);
        kindAt(100, 69, false, 2);
        kindAt(100, 68, false, 3);
        kindAt(100, 1092, false, 2);
        kindAt(100, 1093, false, 3);
        kindAt(100, 101, true, 1);
        kindAt(100, 160, true, 1);
        kindAt(100, 161, true, 2);
        kindAt(100, 1093, true, 3);
        kindAt(65535, 13, false, 0);
        kindAt(65535, 14, false, 1);
        kindAt(0, 65535, false, 0);
        kindAt(0, 65534, false, 1);
        kindAt(3, 65508, false, 2);
        kindAt(3, 65507, false, 3);
    }

    /** Number sent while all the last numbers are the same one. */
    private static void kindAt(int last, int number, boolean mark, int kind) {
        String what = "last " + last + ", number " + number + (mark ? ", mark" : "");
        HeaderSqueeze x = new HeaderSqueeze();
        x.head(513, 7, false);
        for (int i = 0; i < 3; i++) {
            x.send(1, last, 77, (last + 9) % 65536);
        }
        x.head(513, 7, mark);
        int id = (number + 9) % 65536;
        Check.due(what, x.send(1, number, 77, id), kind);
        int[] head = Check.head(513, 7, mark, number, 77, id);
        int[][] packets = {
            {225, number % 16 * 8 + Check.sum(3, head)},
            {225, 128 + number % 64, (mark ? 128 : 0) + Check.sum(7, head)},
            {225, 192 + number / 32 % 32, number % 32 * 8 + (mark ? 4 : 0), Check.sum(8, head)},
            {225, 248, mark ? 128 : 0, number / 256, number % 256, 0, 0, 0, 77, id / 256, id % 256,
                Check.sum(8, head)},
        };
        Check.duePacket(what, x, 3, packets[kind]);
        Check.due(what + ", bytes", x.count(5), 3 * 17 + packets[kind].length);
        Check.dueSender(what, x, 1, 2, 1, 1, 77, 9);
    }

    private static void promise4WindowsAreOfTheLastFourNumbers() {
        HeaderSqueeze x = smallFlow(0, 100, 100, 100);
        Check.due("15 ahead of 100", x.send(0, 115, 0, 115), 1);
        for (int i = 0; i < 3; i++) {
            Check.due("100 is still one of the last four", x.send(0, 115, 0, 115), 1);
        }
        Check.due("100 is no longer one of them", x.send(0, 115, 0, 115), 0);
        HeaderSqueeze y = smallFlow(0, 9000, 100, 100);
        Check.due("of three the first", y.send(0, 101, 0, 101), 3);
        Check.due("of four the first", y.send(0, 102, 0, 102), 3);
        Check.due("of five the second", y.send(0, 103, 0, 103), 0);
    }

    private static void promise4MovedHeads() {
        HeaderSqueeze x = smallFlow(2, 10, 11, 12, 13, 14);
        Check.due("time moved", x.send(2, 15, 1, 15), 3);
        Check.dueSender("time moved", x, 2, 1, 1, 3, 1, 0);
        Check.due("goes along now", x.send(2, 16, 1, 16), 3);
        Check.dueSender("goes along now", x, 2, 1, 2, 4, 1, 0);
        Check.due("id moved", x.send(2, 17, 1, 16), 3);
        Check.dueSender("id moved", x, 2, 1, 1, 5, 1, 65535);
        Check.due("second behind the id", x.send(2, 18, 1, 17), 3);
        Check.due("third behind the id", x.send(2, 19, 1, 18), 3);
        Check.dueSender("third behind the id", x, 2, 2, 0, 7, 1, 65535);
        Check.due("small again", x.send(2, 20, 1, 19), 0);
        Check.dueSender("small again", x, 2, 2, 1, 8, 1, 65535);
        int[] head = Check.head(0, 0, false, 15, 1, 15);
        Check.duePacket("kind 3", x, 0, 226, 248, 0, 0, 15, 0, 0, 0, 1, 0, 15, Check.sum(8, head));
        x.send(2, 21, -2, 20);
        x.head(0, 1, false);
        Check.due("other type while moving", x.send(2, 22, -2, 21), 4);
        Check.dueSender("other type while moving", x, 2, 0, 1, 0, -2, 65535);
    }

    private static void promise4MovedWhileWhole() {
        HeaderSqueeze x = smallFlow(0, 1, 2);
        Check.due("moved while whole", x.send(0, 3, 5, 3), 4);
        Check.dueSender("moved while whole", x, 0, 0, 1, 0, 5, 0);
        x.send(0, 4, 5, 4);
        Check.dueSender("second", x, 0, 0, 2, 0, 5, 0);
        x.send(0, 5, 5, 5);
        Check.dueSender("third", x, 0, 2, 0, 0, 5, 0);
    }

    private static void promise4AgeTwenty() {
        HeaderSqueeze x = smallFlow(1, 1, 2, 3);
        for (int n = 4; n <= 23; n++) {
            Check.due("small " + n, x.send(1, n, 0, n), 0);
            x.lose(0);
            Check.dueSender("small " + n, x, 1, 2, n - 3, n - 3);
        }
        for (int n = 24; n <= 26; n++) {
            Check.due("aged " + n, x.send(1, n, 0, n), 4);
            Check.dueSender("aged " + n, x, 1, n < 26 ? 0 : 2, (n - 23) % 3, 0);
        }
        Check.due("young", x.send(1, 27, 0, 27), 0);

        HeaderSqueeze moving = smallFlow(0, 1, 2, 3);
        for (int n = 4; n <= 23; n++) {
            Check.due("moving " + n, moving.send(0, n, n, n), 3);
            moving.lose(0);
            Check.dueSender("moving " + n, moving, 0, 1, 1, n - 3);
        }
        Check.due("aged while moving", moving.send(0, 24, 24, 24), 4);
    }

    private static void promise4LostAtOnce() {
        HeaderSqueeze x = new HeaderSqueeze();
        for (int n = 1; n <= 8; n++) {
            Check.due("room for " + n, x.send(0, n, 0, n), n <= 3 ? 4 : 0);
        }
        Check.due("no room", x.send(0, 9, 0, 9), 8);
        Check.due("no room", x.line(), 8);
        Check.dueSender("no room", x, 0, 2, 6, 6);
        Check.due("no room, counted", x.count(0), 6);
        Check.due("no room, bytes", x.count(5), 3 * 16 + 6);
        Check.due("no room, moved", x.send(0, 10, 1, 10), 11);
        Check.due("no room, new flow", x.send(3, 10, 1, 10), 12);
        Check.duePacket("the last one with room", x, 7, 64 + Check.sum(3, Check.head(0, 0, false, 8, 0, 8)));
        x.lose(0);
        Check.due("room again", x.send(0, 11, 1, 11), 3);
        Check.due("room again", x.line(), 8);
        Check.due("room again", x.byteAt(7, 3), 11);
    }

    private static void promise4WrongSends() {
        HeaderSqueeze x = smallFlow(0, 1, 2, 3);
        Check.dueThrow("flow -1", INDEX, () -> x.send(-1, 4, 0, 4));
        Check.dueThrow("flow 4", INDEX, () -> x.send(4, 4, 0, 4));
        Check.dueThrow("flow 4, number -1", INDEX, () -> x.send(4, -1, 0, -1));
        Check.dueThrow("number -1", ARGUMENT, () -> x.send(0, -1, 0, 4));
        Check.dueThrow("number 65536", ARGUMENT, () -> x.send(0, 65536, 0, 4));
        Check.dueThrow("id -1", ARGUMENT, () -> x.send(0, 4, 0, -1));
        Check.dueThrow("id 65536", ARGUMENT, () -> x.send(0, 4, 0, 65536));
        Check.due("wrong sends leave the line", x.line(), 0);
        Check.dueSender("wrong sends", x, 0, 2, 0, 0, 0, 0);
        Check.dueCounts("wrong sends", x, 0, 0, 0, 0, 3, 48);
        HeaderSqueeze edges = new HeaderSqueeze();
        Check.due("highest", edges.send(0, 65535, Integer.MAX_VALUE, 65535), 4);
        Check.due("lowest", edges.send(3, 0, Integer.MIN_VALUE, 0), 4);
        Check.due("lowest time", edges.byteAt(1, 10), 128);
    }

    private static void promise4FlowsAreApart() {
        HeaderSqueeze x = smallFlow(0, 1, 2, 3);
        Check.due("another flow", x.send(1, 4, 0, 4), 4);
        Check.dueSender("another flow", x, 0, 2, 0, 0);
        Check.due("the first flow", x.send(0, 4, 0, 4), 0);
        Check.dueSender("the other flow", x, 1, 0, 1, 0);
    }

    private static void promise12Sender() {
        HeaderSqueeze x = new HeaderSqueeze();
        x.stride(3, 65535);
        x.send(3, 65535, Integer.MIN_VALUE, 0);
        Check.dueSender("ints go round", x, 3, 0, 1, 0, Integer.MIN_VALUE - 65535 * 65535, 1);
        x.send(3, 0, 1, 65535);
        Check.dueSender("number 0", x, 3, 0, 1, 0, 1, 65535);
        HeaderSqueeze round = new HeaderSqueeze();
        round.stride(0, 60000);
        for (int i = 0; i < 4; i++) {
            int number = (65533 + i) % 65536;
            int time = 11 + number * 60000;
            Check.due("number goes round", round.send(0, number, time, (65535 + i) % 65536), i < 3 ? 4 : 0);
            Check.dueSender("number goes round", round, 0, i < 2 ? 0 : 2, (i + 1) % 3,
                    i < 3 ? 0 : 1, 11, 2);
        }
    }

    private static void promise12WrongAsking() {
        HeaderSqueeze x = new HeaderSqueeze();
        Check.dueThrow("sender(-1, 0)", INDEX, () -> x.sender(-1, 0));
        Check.dueThrow("sender(4, 0)", INDEX, () -> x.sender(4, 0));
        Check.dueThrow("sender(4, 9)", INDEX, () -> x.sender(4, 9));
        Check.dueThrow("sender(3, -1)", ARGUMENT, () -> x.sender(3, -1));
        Check.dueThrow("sender(3, 5)", ARGUMENT, () -> x.sender(3, 5));
    }
}
