/** Promises 5 to 9: line, size, byteAt, spoil, lose. */
public final class LineTest {
    private static final Class<IndexOutOfBoundsException> INDEX = IndexOutOfBoundsException.class;
    private static final Class<IllegalArgumentException> ARGUMENT = IllegalArgumentException.class;

    public static void main(String[] args) {
        promise5Line();
        promise6SizeOfEveryKind();
        promise6And7NoSuchPacket();
        promise7ByteAt();
        promise8Spoil();
        promise8WrongSpoils();
        promise9Lose();
        Check.end();
    }

    /** Packets 0 .. 7: three of kind 4, then 0, 1, 2, 3, 3. */
    private static HeaderSqueeze fullLine(int flow) {
        HeaderSqueeze x = new HeaderSqueeze();
        int[] numbers = {1, 1, 1, 1, 40, 900, 3000, 9000};
        for (int number : numbers) {
            x.send(flow, number, 0, number);
        }
        return x;
    }

    private static void promise5Line() {
        HeaderSqueeze x = new HeaderSqueeze();
        for (int n = 1; n <= 10; n++) {
            x.send(n % 4, n, 0, n);
            Check.due("line behind " + n, x.line(), Math.min(n, 8));
        }
        x.lose(3);
        Check.due("one lost", x.line(), 7);
        x.deliver(3);
        Check.due("one delivered", x.line(), 6);
        x.spoil(0, 0, 255);
        Check.due("one spoiled", x.line(), 6);
    }

    private static void promise6SizeOfEveryKind() {
        int[] sizes = {16, 16, 16, 1, 2, 3, 11, 11};
        for (int flow = 0; flow < 4; flow++) {
            HeaderSqueeze x = fullLine(flow);
            for (int k = 0; k < 8; k++) {
                int front = flow == 0 ? 0 : 1;
                Check.due("flow " + flow + ", size(" + k + ")", x.size(k), sizes[k] + front);
                if (flow != 0) {
                    Check.due("byte of the flow", x.byteAt(k, 0), 224 + flow);
                }
            }
        }
    }

    private static void promise6And7NoSuchPacket() {
        HeaderSqueeze x = new HeaderSqueeze();
        Check.dueThrow("size(0) of none", INDEX, () -> x.size(0));
        Check.dueThrow("byteAt(0, 0) of none", INDEX, () -> x.byteAt(0, 0));
        x.send(0, 1, 1, 1);
        Check.dueThrow("size(-1)", INDEX, () -> x.size(-1));
        Check.dueThrow("size(1)", INDEX, () -> x.size(1));
        Check.dueThrow("byteAt(-1, 0)", INDEX, () -> x.byteAt(-1, 0));
        Check.dueThrow("byteAt(1, 0)", INDEX, () -> x.byteAt(1, 0));
        Check.dueThrow("byteAt(0, -1)", INDEX, () -> x.byteAt(0, -1));
        Check.dueThrow("byteAt(0, 16)", INDEX, () -> x.byteAt(0, 16));
        HeaderSqueeze full = fullLine(0);
        full.send(0, 9001, 0, 9001);
        Check.dueThrow("size(8) of a full line", INDEX, () -> full.size(8));
        Check.dueThrow("byteAt(8, 0) of a full line", INDEX, () -> full.byteAt(8, 0));
        Check.dueThrow("byte 1 of a row used before", INDEX, () -> {
            full.lose(0);
            full.lose(0);
            full.send(0, 9002, 0, 9002);
            full.send(0, 9003, 0, 9003);
            return full.byteAt(3, 3);
        });
    }

    private static void promise7ByteAt() {
        HeaderSqueeze x = new HeaderSqueeze();
        x.head(0xFEDC, 0x65, true);
        x.stride(3, 0xBA98);
        x.send(3, 0x7654, 0x87654321, 0x8F1F);
        int sum = Check.sum(8, 0xFE, 0xDC, 0xE5, 0x76, 0x54, 0x87, 0x65, 0x43, 0x21, 0x8F, 0x1F, 0xBA, 0x98);
        Check.duePacket("kind 4", x, 0, 227, 253, 0xFE, 0xDC, 0x65, 0xBA, 0x98, 128, 0x76, 0x54,
                0x87, 0x65, 0x43, 0x21, 0x8F, 0x1F, sum);
    }

    private static void promise8Spoil() {
        HeaderSqueeze x = fullLine(1);
        x.spoil(2, 16, 0);
        Check.due("nothing changed", x.byteAt(2, 16), x.byteAt(1, 16));
        x.spoil(1, 16, 255);
        Check.due("all bits", x.byteAt(1, 16), 255 - x.byteAt(0, 16));
        x.spoil(1, 16, 255);
        Check.due("there and back", x.byteAt(1, 16), x.byteAt(0, 16));
        x.spoil(0, 1, 0x21);
        Check.due("two bits", x.byteAt(0, 1), 253 ^ 0x21);
        Check.due("of one packet alone", x.byteAt(1, 1), 253);
        Check.due("size stays", x.size(0), 17);
        x.spoil(3, 0, 3);
        Check.due("the flow's byte", x.byteAt(3, 0), 226);
        x.lose(0);
        Check.due("spoilt bytes go along", x.byteAt(2, 0), 226);
    }

    private static void promise8WrongSpoils() {
        HeaderSqueeze x = fullLine(0);
        Check.dueThrow("spoil(-1, 0, 1)", INDEX, () -> { x.spoil(-1, 0, 1); return 0; });
        Check.dueThrow("spoil(8, 0, 1)", INDEX, () -> { x.spoil(8, 0, 1); return 0; });
        Check.dueThrow("spoil(0, -1, 1)", INDEX, () -> { x.spoil(0, -1, 1); return 0; });
        Check.dueThrow("spoil(3, 1, 1)", INDEX, () -> { x.spoil(3, 1, 1); return 0; });
        Check.dueThrow("spoil(3, 1, 256)", INDEX, () -> { x.spoil(3, 1, 256); return 0; });
        Check.dueThrow("spoil(0, 0, -1)", ARGUMENT, () -> { x.spoil(0, 0, -1); return 0; });
        Check.dueThrow("spoil(0, 0, 256)", ARGUMENT, () -> { x.spoil(0, 0, 256); return 0; });
        Check.due("wrong spoils change nothing", x.byteAt(0, 0), 253);
    }

    private static void promise9Lose() {
        HeaderSqueeze x = fullLine(0);
        x.lose(7);
        Check.due("the last one lost", x.line(), 7);
        Check.due("the last one lost", x.size(6), 11);
        x.lose(2);
        Check.due("one between lost", x.line(), 6);
        int[] sizes = {16, 16, 1, 2, 3, 11};
        for (int k = 0; k < 6; k++) {
            Check.due("the others stay in order, " + k, x.size(k), sizes[k]);
        }
        Check.dueThrow("lose(6)", INDEX, () -> { x.lose(6); return 0; });
        Check.dueThrow("lose(-1)", INDEX, () -> { x.lose(-1); return 0; });
        Check.due("wrong loses change nothing", x.line(), 6);
        for (int k = 0; k < 6; k++) {
            x.lose(0);
        }
        Check.due("all lost", x.line(), 0);
        Check.dueThrow("lose(0) of none", INDEX, () -> { x.lose(0); return 0; });
        Check.dueCounts("lost packets were sent", x, 1, 1, 1, 2, 3, 48 + 1 + 2 + 3 + 22, 0, 0, 0, 0, 0);
        Check.due("the other side knows nothing of them", x.receiver(0, 0), 0);
    }
}
