/** Too small, too large: each range of the document at its last value and at the first one outside. */
public final class RangeTest {
    private static final Class<IndexOutOfBoundsException> INDEX = IndexOutOfBoundsException.class;
    private static final Class<IllegalArgumentException> ARGUMENT = IllegalArgumentException.class;
    private static final int LEAST = Integer.MIN_VALUE;
    private static final int MOST = Integer.MAX_VALUE;

    public static void main(String[] args) {
        flowsAre0To3();
        promise2StrideIs0To65535();
        promise3AddressIs0To65535();
        promise3TypeIs0To127();
        promise4NumberIs0To65535();
        promise4IdIs0To65535();
        promise4TimeIsAnyInt();
        promise5To10PacketsOfTheLine();
        promise6And7BytesOfEveryKind();
        promise8BitsAre0To255();
        promise10TypeOfAPacketIsNotAbove127();
        promise11BytesAre0To10();
        promise12WhichIs0To4();
        promise13WhichIs0To3();
        promise13LevelIsNotBelow0();
        promise14WhichIs0To10();
        Check.end();
    }

    private static Check.Call stride(HeaderSqueeze x, int flow, int stride) {
        return () -> { x.stride(flow, stride); return 0; };
    }

    private static Check.Call head(HeaderSqueeze x, int address, int type) {
        return () -> { x.head(address, type, true); return 0; };
    }

    private static Check.Call spoil(HeaderSqueeze x, int k, int i, int m) {
        return () -> { x.spoil(k, i, m); return 0; };
    }

    private static Check.Call lose(HeaderSqueeze x, int k) {
        return () -> { x.lose(k); return 0; };
    }

    private static void dueDone(String what, Check.Call call) {
        Check.dueText(what, Check.answer(call), "0");
    }

    private static void flowsAre0To3() {
        HeaderSqueeze x = new HeaderSqueeze();
        for (int flow = 0; flow <= 3; flow++) {
            int f = flow;
            dueDone("stride of flow " + f, stride(x, f, 1));
            Check.due("send in flow " + f, x.send(f, 7, 9, 8), 4);
            Check.dueSender("flow " + f, x, f, 0, 1, 0, 2, 1);
            Check.due("deliver in flow " + f, x.deliver(0), f);
            Check.dueReceiver("flow " + f, x, f, 2, 7, 7, 0);
        }
        for (int flow : new int[] {LEAST, -1, 4, MOST}) {
            Check.dueThrow("stride of flow " + flow, INDEX, stride(x, flow, 1));
            Check.dueThrow("send in flow " + flow, INDEX, () -> x.send(flow, 1, 1, 1));
            Check.dueThrow("sender of flow " + flow, INDEX, () -> x.sender(flow, 0));
            Check.dueThrow("receiver of flow " + flow, INDEX, () -> x.receiver(flow, 0));
        }
    }

    private static void promise2StrideIs0To65535() {
        for (int stride : new int[] {0, 1, 255, 256, 65534, 65535}) {
            HeaderSqueeze x = new HeaderSqueeze();
            dueDone("stride " + stride, stride(x, 1, stride));
            x.send(1, 1, 0, 0);
            Check.due("phase with stride " + stride, x.sender(1, 3), -stride);
            Check.duePacket("stride " + stride, x, 0,
                    Check.packet(1, 4, stride, Check.head(0, 0, false, 1, 0, 0)));
        }
        for (int stride : new int[] {LEAST, -65536, -1, 65536, 65537, MOST}) {
            HeaderSqueeze x = new HeaderSqueeze();
            x.stride(1, 5);
            Check.dueThrow("stride " + stride, ARGUMENT, stride(x, 1, stride));
            x.send(1, 1, 0, 0);
            Check.due("the wished one stays, not " + stride, x.sender(1, 3), -5);
        }
    }

    private static void promise3AddressIs0To65535() {
        for (int address : new int[] {0, 255, 256, 65535}) {
            HeaderSqueeze x = new HeaderSqueeze();
            dueDone("address " + address, head(x, address, 1));
            x.send(0, 0, 0, 0);
            Check.due("higher byte of address " + address, x.byteAt(0, 1), address / 256);
            Check.due("lower byte of address " + address, x.byteAt(0, 2), address % 256);
            x.deliver(0);
            Check.dueMade("address " + address, x, Check.head(address, 1, true, 0, 0, 0));
        }
        for (int address : new int[] {LEAST, -65536, -1, 65536, 65537, MOST}) {
            dueHeadStays("address " + address, address, 1);
        }
    }

    private static void promise3TypeIs0To127() {
        for (int type : new int[] {0, 1, 126, 127}) {
            HeaderSqueeze x = new HeaderSqueeze();
            dueDone("type " + type, head(x, 1, type));
            x.send(0, 0, 0, 0);
            Check.due("byte of type " + type, x.byteAt(0, 3), type);
            x.deliver(0);
            Check.dueMade("type " + type, x, Check.head(1, type, true, 0, 0, 0));
        }
        for (int type : new int[] {LEAST, -1, 128, 129, 255, 256, MOST}) {
            dueHeadStays("type " + type, 1, type);
        }
    }

    private static void dueHeadStays(String what, int address, int type) {
        HeaderSqueeze x = new HeaderSqueeze();
        x.head(772, 5, false);
        Check.dueThrow(what, ARGUMENT, head(x, address, type));
        x.send(0, 0, 0, 0);
        Check.duePacket("the head stays, not " + what, x, 0,
                Check.packet(0, 4, 0, Check.head(772, 5, false, 0, 0, 0)));
    }

    private static void promise4NumberIs0To65535() {
        for (int number : new int[] {0, 255, 256, 65535}) {
            HeaderSqueeze x = new HeaderSqueeze();
            Check.due("number " + number, x.send(0, number, 5, 3), 4);
            Check.duePacket("number " + number, x, 0,
                    Check.packet(0, 4, 0, Check.head(0, 0, false, number, 5, 3)));
        }
        for (int number : new int[] {LEAST, -65536, -1, 65536, 65537, MOST}) {
            HeaderSqueeze x = new HeaderSqueeze();
            Check.dueThrow("number " + number, ARGUMENT, () -> x.send(0, number, 5, 3));
            Check.dueText("not sent", Check.all(x), Check.all(new HeaderSqueeze()));
        }
    }

    private static void promise4IdIs0To65535() {
        for (int id : new int[] {0, 255, 256, 65535}) {
            HeaderSqueeze x = new HeaderSqueeze();
            Check.due("id " + id, x.send(0, 3, 5, id), 4);
            Check.duePacket("id " + id, x, 0, Check.packet(0, 4, 0, Check.head(0, 0, false, 3, 5, id)));
        }
        for (int id : new int[] {LEAST, -65536, -1, 65536, 65537, MOST}) {
            HeaderSqueeze x = new HeaderSqueeze();
            Check.dueThrow("id " + id, ARGUMENT, () -> x.send(0, 3, 5, id));
            Check.dueText("not sent", Check.all(x), Check.all(new HeaderSqueeze()));
        }
    }

    private static void promise4TimeIsAnyInt() {
        int[][] bytes = {{128, 0, 0, 0}, {255, 255, 255, 255}, {0, 0, 0, 0}, {127, 255, 255, 255}};
        int[] times = {LEAST, -1, 0, MOST};
        for (int t = 0; t < 4; t++) {
            HeaderSqueeze x = new HeaderSqueeze();
            Check.due("time " + times[t], x.send(0, 0, times[t], 0), 4);
            Check.due("phase of time " + times[t], x.sender(0, 3), times[t]);
            for (int i = 0; i < 4; i++) {
                Check.due("byte of time " + times[t], x.byteAt(0, 9 + i), bytes[t][i]);
            }
            x.deliver(0);
            for (int i = 0; i < 4; i++) {
                Check.due("byte of the time made " + times[t], x.made(5 + i), bytes[t][i]);
            }
        }
    }

    private static void promise5To10PacketsOfTheLine() {
        for (int packets = 0; packets <= 8; packets++) {
            for (int k : new int[] {LEAST, -1, packets, packets + 1, MOST}) {
                HeaderSqueeze x = withPackets(packets);
                String what = k + " of " + packets;
                Check.dueThrow("size of packet " + what, INDEX, () -> x.size(k));
                Check.dueThrow("byteAt of packet " + what, INDEX, () -> x.byteAt(k, 0));
                Check.dueThrow("spoil of packet " + what, INDEX, spoil(x, k, 0, 1));
                Check.dueThrow("lose of packet " + what, INDEX, lose(x, k));
                Check.dueThrow("deliver of packet " + what, INDEX, () -> x.deliver(k));
                Check.due("none is gone, " + what, x.line(), packets);
            }
            for (int k = 0; k < packets; k += packets == 1 ? 1 : packets - 1) {
                HeaderSqueeze x = withPackets(packets);
                String what = k + " of " + packets;
                Check.due("size of packet " + what, x.size(k), 16);
                Check.due("byteAt of packet " + what, x.byteAt(k, 14), k);
                x.spoil(k, 0, 1);
                Check.due("spoil of packet " + what, x.byteAt(k, 0), 252);
                x.spoil(k, 0, 1);
                Check.due("deliver of packet " + what, x.deliver(k), 0);
                Check.due("the head of packet " + what, x.made(10), k);
                Check.due("one is gone, " + what, x.line(), packets - 1);
                HeaderSqueeze y = withPackets(packets);
                y.lose(k);
                Check.due("one is lost, " + what, y.line(), packets - 1);
            }
        }
    }

    /** Packets of kind 4 whose ids are their places on the line. */
    private static HeaderSqueeze withPackets(int packets) {
        HeaderSqueeze x = new HeaderSqueeze();
        for (int k = 0; k < packets; k++) {
            x.stride(0, k);
            x.send(0, 0, 0, k);
        }
        return x;
    }

    private static void promise6And7BytesOfEveryKind() {
        int[] sizes = {16, 16, 16, 1, 2, 3, 11, 11};
        for (int flow = 0; flow <= 3; flow++) {
            HeaderSqueeze x = Check.stocked(flow);
            for (int place = 0; place < 8; place++) {
                int k = place;
                int size = sizes[k] + (flow == 0 ? 0 : 1);
                String what = "flow " + flow + ", packet " + k;
                Check.due(what + ", size", x.size(k), size);
                int last = x.byteAt(k, size - 1);
                x.spoil(k, size - 1, 255);
                Check.due(what + ", its last byte", x.byteAt(k, size - 1), 255 - last);
                for (int i : new int[] {LEAST, -1, size, 17, MOST}) {
                    if (i != size - 1) {
                        Check.dueThrow(what + ", byteAt " + i, INDEX, () -> x.byteAt(k, i));
                        Check.dueThrow(what + ", spoil " + i, INDEX, spoil(x, k, i, 1));
                    }
                }
            }
        }
    }

    private static void promise8BitsAre0To255() {
        HeaderSqueeze x = Check.stocked(0);
        for (int m : new int[] {0, 1, 128, 255}) {
            dueDone("m " + m, spoil(x, 0, 0, m));
            Check.due("m " + m, x.byteAt(0, 0), 253 ^ m);
            x.spoil(0, 0, m);
        }
        for (int m : new int[] {LEAST, -256, -1, 256, 257, MOST}) {
            Check.dueThrow("m " + m, ARGUMENT, spoil(x, 0, 0, m));
            Check.due("not changed by m " + m, x.byteAt(0, 0), 253);
        }
    }

    private static void promise10TypeOfAPacketIsNotAbove127() {
        for (int type : new int[] {0, 126, 127}) {
            int[] head = Check.head(9, type, true, 1, 2, 3);
            HeaderSqueeze x = Check.stocked(2);
            Check.dueText("a packet's type " + type, Check.comes(x, Check.packet(2, 4, 0, head)), "2");
            Check.dueMade("a packet's type " + type, x, head);
        }
        for (int type : new int[] {128, 129, 255}) {
            int[] packet = Check.packet(2, 4, 0, Check.head(9, 0, true, 1, 2, 3));
            packet[4] = type;
            Check.dueText("a packet's type " + type, Check.comes(Check.stocked(2), packet),
                    "throws.IllegalArgumentException");
        }
    }

    private static void promise11BytesAre0To10() {
        HeaderSqueeze x = new HeaderSqueeze();
        for (int i : new int[] {LEAST, -1, 11, 12, MOST}) {
            Check.dueThrow("made(" + i + ") of none", INDEX, () -> x.made(i));
        }
        x.head(65535, 127, true);
        x.send(0, 65535, -1, 65535);
        x.deliver(0);
        for (int i = 0; i <= 10; i++) {
            Check.due("made(" + i + ")", x.made(i), 255);
        }
        for (int i : new int[] {LEAST, -1, 11, 12, MOST}) {
            Check.dueThrow("made(" + i + ")", INDEX, () -> x.made(i));
        }
    }

    private static void promise12WhichIs0To4() {
        HeaderSqueeze x = Check.stocked(3);
        x.send(3, 9001, 6, 9003);
        Check.dueSender("all five", x, 3, 1, 1, 6, 6, 2);
        for (int which : new int[] {LEAST, -1, 5, 6, MOST}) {
            Check.dueThrow("sender(3, " + which + ")", ARGUMENT, () -> x.sender(3, which));
        }
    }

    private static void promise13WhichIs0To3() {
        HeaderSqueeze x = Check.stocked(3);
        Check.comes(x, Check.packet(3, 4, 0, Check.head(0, 0, false, 8, 0, 0)));
        Check.comes(x, Check.packet(3, 3, 0, Check.head(0, 0, false, 9, 0, 0)));
        int[] wrong = Check.packet(3, 3, 0, Check.head(0, 0, false, 9, 0, 0));
        wrong[11] ^= 1;
        Check.comes(x, wrong);
        Check.dueReceiver("all four", x, 3, 2, 9, 8, 1);
        for (int which : new int[] {LEAST, -1, 4, 5, MOST}) {
            Check.dueThrow("receiver(3, " + which + ")", ARGUMENT, () -> x.receiver(3, which));
        }
    }

    private static void promise13LevelIsNotBelow0() {
        HeaderSqueeze x = new HeaderSqueeze();
        int[] wrong = Check.packet(1, 4, 0, Check.head(0, 0, false, 9, 0, 0));
        wrong[16] ^= 1;
        for (int failures = 1; failures <= 7; failures++) {
            x.stride(1, failures);
            x.send(1, 9, 0, 0);
            Check.dueText("failure " + failures, Check.comes(x, wrong), "throws.ArithmeticException");
            Check.dueReceiver("failure " + failures, x, 1, 0, 0, 0, failures % 3);
        }
        x.send(1, 9, 0, 0);
        Check.due("a head at last", x.deliver(0), 1);
        Check.dueReceiver("a head at last", x, 1, 2, 9, 9, 0);
    }

    private static void promise14WhichIs0To10() {
        HeaderSqueeze x = Check.stocked(0);
        Check.dueCounts("all eleven", x, 1, 1, 1, 2, 3, 76, 0, 0, 0, 0, 0);
        for (int which : new int[] {LEAST, -1, 11, 12, MOST}) {
            Check.dueThrow("count(" + which + ")", ARGUMENT, () -> x.count(which));
        }
    }
}
