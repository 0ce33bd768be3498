/** Refused calls: which exception is thrown, what is broken, of no use or fails, and what changes then. */
public final class RefusedTest {
    private static final Class<IndexOutOfBoundsException> INDEX = IndexOutOfBoundsException.class;
    private static final Class<IllegalArgumentException> ARGUMENT = IllegalArgumentException.class;
    private static final String BROKEN = "throws.IllegalArgumentException";
    private static final String NO_USE = "throws.IllegalStateException";
    private static final String FAILED = "throws.ArithmeticException";
    /** By kind: the bytes of a packet, behind that of a flow. */
    private static final int[] SIZES = {1, 2, 3, 11, 16};

    public static void main(String[] args) {
        theFirstOfThoseListedIsThrown();
        nothingIsChangedByRefusedCalls();
        promise10TheFirstOfThoseListedIsThrown();
        promise10BrokenByFirstByteOrLength();
        promise10BrokenBehindTheByteOfAFlow();
        promise10BrokenByLowBitsOfKind2();
        promise10BrokenByMark();
        promise10NoUseByKindAndLevel();
        promise10FailsByItsSumAlone();
        promise10RefusedChangesOnlyItsCount();
        Check.end();
    }

    private static void theFirstOfThoseListedIsThrown() {
        HeaderSqueeze x = Check.stocked(0);
        for (int flow : new int[] {-1, 4}) {
            Check.dueThrow("stride, flow and stride", INDEX, () -> { x.stride(flow, -1); return 0; });
            Check.dueThrow("stride, flow and stride", INDEX, () -> { x.stride(flow, 65536); return 0; });
            Check.dueThrow("send, flow and number", INDEX, () -> x.send(flow, 65536, 0, 0));
            Check.dueThrow("send, flow and id", INDEX, () -> x.send(flow, 0, 0, -1));
            Check.dueThrow("sender, flow and which", INDEX, () -> x.sender(flow, 5));
            Check.dueThrow("receiver, flow and which", INDEX, () -> x.receiver(flow, 4));
            Check.dueThrow("sender, flow and which -1", INDEX, () -> x.sender(flow, -1));
            Check.dueThrow("receiver, flow and which -1", INDEX, () -> x.receiver(flow, -1));
        }
        for (int m : new int[] {-1, 256}) {
            Check.dueThrow("spoil, packet and m", INDEX, () -> { x.spoil(8, 0, m); return 0; });
            Check.dueThrow("spoil, packet -1 and m", INDEX, () -> { x.spoil(-1, 0, m); return 0; });
            Check.dueThrow("spoil, byte and m", INDEX, () -> { x.spoil(3, 1, m); return 0; });
            Check.dueThrow("spoil, byte -1 and m", INDEX, () -> { x.spoil(3, -1, m); return 0; });
            Check.dueThrow("spoil, m alone", ARGUMENT, () -> { x.spoil(3, 0, m); return 0; });
        }
    }

    /** A context, a head, failures and counts on both sides, and packets on the line. */
    private static HeaderSqueeze rich() {
        HeaderSqueeze x = new HeaderSqueeze();
        x.head(4660, 97, false);
        x.stride(1, 160);
        for (int n = 1; n <= 6; n++) {
            x.send(1, n, 7 + n * 160, n + 3);
        }
        x.deliver(0);
        x.deliver(0);
        x.spoil(0, 16, 1);
        Check.answer(() -> x.deliver(0));
        x.stride(1, 161);
        x.head(4661, 98, true);
        return x;
    }

    private static void nothingIsChangedByRefusedCalls() {
        HeaderSqueeze x = rich();
        for (int wrong : new int[] {-1, 4}) {
            Check.dueThrow("stride", INDEX, () -> { x.stride(wrong, 9); return 0; });
            Check.dueThrow("send", INDEX, () -> x.send(wrong, 9, 9, 9));
            Check.dueThrow("sender", INDEX, () -> x.sender(wrong, 0));
            Check.dueThrow("receiver", INDEX, () -> x.receiver(wrong, 0));
            Check.dueThrow("size", INDEX, () -> x.size(wrong));
            Check.dueThrow("byteAt", INDEX, () -> x.byteAt(wrong, 0));
            Check.dueThrow("byteAt", INDEX, () -> x.byteAt(0, wrong));
            Check.dueThrow("spoil", INDEX, () -> { x.spoil(wrong, 0, 9); return 0; });
            Check.dueThrow("spoil", INDEX, () -> { x.spoil(0, wrong, 9); return 0; });
            Check.dueThrow("lose", INDEX, () -> { x.lose(wrong); return 0; });
            Check.dueThrow("deliver", INDEX, () -> x.deliver(wrong));
        }
        for (int wrong : new int[] {-1, 65536}) {
            Check.dueThrow("stride", ARGUMENT, () -> { x.stride(1, wrong); return 0; });
            Check.dueThrow("head", ARGUMENT, () -> { x.head(wrong, 9, false); return 0; });
            Check.dueThrow("head", ARGUMENT, () -> { x.head(9, wrong, false); return 0; });
            Check.dueThrow("send", ARGUMENT, () -> x.send(1, wrong, 9, 9));
            Check.dueThrow("send", ARGUMENT, () -> x.send(1, 9000, 9, wrong));
            Check.dueThrow("spoil", ARGUMENT, () -> { x.spoil(0, 0, wrong); return 0; });
            Check.dueThrow("sender", ARGUMENT, () -> x.sender(1, wrong));
            Check.dueThrow("receiver", ARGUMENT, () -> x.receiver(1, wrong));
            Check.dueThrow("made", INDEX, () -> x.made(wrong));
            Check.dueThrow("count", ARGUMENT, () -> x.count(wrong));
        }
        Check.dueText("as without the refused calls", goneOn(x), goneOn(rich()));
    }

    /** What can't be asked, the wished stride, the head and the last numbers, shows in what is sent. */
    private static String goneOn(HeaderSqueeze x) {
        StringBuilder text = new StringBuilder();
        for (int n = 7; n <= 11; n++) {
            text.append(x.send(1, n, 7 + n * 161, n + 3)).append(' ');
        }
        return text.append(x.deliver(0)).append(' ').append(Check.all(x)).toString();
    }

    private static int[] head(int number) {
        return Check.head(0, 0, false, number, 5, number);
    }

    private static int[] wrongSum(int flow, int kind, int number) {
        int[] packet = Check.packet(flow, kind, 0, head(number));
        packet[packet.length - 1] ^= 1;
        return packet;
    }

    private static void promise10TheFirstOfThoseListedIsThrown() {
        int[] moving = wrongSum(1, 3, 9);
        int[] small = wrongSum(1, 2, 9);
        int[] whole = wrongSum(1, 4, 9);
        HeaderSqueeze x = Check.stocked(1);
        Check.dueText("of no use, with a wrong sum", Check.comes(x, moving), NO_USE);
        moving[2] = 1;
        Check.dueText("broken, of no use, with a wrong sum", Check.comes(x, moving), BROKEN);
        small[2] |= 3;
        Check.dueText("broken, of no use, with a wrong sum", Check.comes(x, small), BROKEN);
        whole[4] = 128;
        Check.dueText("broken, with a wrong sum", Check.comes(x, whole), BROKEN);
        Check.dueReceiver("none failed", x, 1, 0, 0, 0, 0);
        Check.dueCounts("each counted once", x, 1, 1, 1, 2, 3, 84, 0, 0, 3, 1, 0);
        HeaderSqueeze known = Check.stocked(1);
        Check.comes(known, Check.packet(1, 4, 0, head(8)));
        Check.dueText("broken at level 2, with a wrong sum", Check.comes(known, moving), BROKEN);
        Check.dueText("broken at level 2, with a wrong sum", Check.comes(known, small), BROKEN);
        Check.dueReceiver("none failed", known, 1, 2, 8, 8, 0);
    }

    private static int kindTold(int first) {
        if (first < 128) {
            return 0;
        }
        if (first < 192) {
            return 1;
        }
        if (first < 224) {
            return 2;
        }
        return first == 248 ? 3 : first == 253 ? 4 : -1;
    }

    /** All bytes behind the first one are 0, so that only it and the length can be wrong. */
    private static void dueShape(int front, int length, int first) {
        boolean flow0 = length == 1 || length == 11 || length == 16;
        HeaderSqueeze x = Check.stocked(flow0 ? 0 : 1);
        int[] packet = new int[length];
        if (front != 0) {
            packet[0] = 224 + front;
        }
        int own = front == 0 ? 0 : 1;
        if (own < length) {
            packet[own] = first;
        }
        int kind = own < length ? kindTold(first) : -1;
        boolean shaped = kind >= 0 && length - own == SIZES[kind];
        String what = length + " bytes, flow " + front + ", first one " + first;
        String answer = Check.comes(x, packet);
        Check.due(what + ", broken by answer " + answer, answer.equals(BROKEN) ? 1 : 0, shaped ? 0 : 1);
        Check.due(what + ", broken", x.count(8), shaped ? 0 : 1);
        Check.due(what + ", of no use", x.count(9), shaped && kind < 4 ? 1 : 0);
        Check.due(what + ", off the line", x.line(), 7);
    }

    private static void promise10BrokenByFirstByteOrLength() {
        for (int length : new int[] {1, 2, 3, 4, 11, 12, 16, 17}) {
            for (int first = 0; first < 256; first++) {
                if (first < 225 || first > 227) {
                    dueShape(0, length, first);
                }
            }
        }
    }

    private static void promise10BrokenBehindTheByteOfAFlow() {
        for (int flow = 1; flow <= 3; flow++) {
            for (int length : new int[] {1, 2, 3, 4, 11, 12, 16, 17}) {
                for (int first = 0; first < 256; first++) {
                    dueShape(flow, length, first);
                }
            }
        }
    }

    private static void promise10BrokenByLowBitsOfKind2() {
        for (int second = 0; second < 256; second++) {
            HeaderSqueeze x = Check.stocked(0);
            Check.dueText("second byte " + second, Check.comes(x, 192, second, 0),
                    second % 4 == 0 ? NO_USE : BROKEN);
            HeaderSqueeze other = Check.stocked(0);
            Check.dueText("kind 1, second byte " + second, Check.comes(other, 128, second), NO_USE);
        }
    }

    private static void promise10BrokenByMark() {
        for (int mark = 0; mark < 256; mark++) {
            boolean right = mark == 0 || mark == 128;
            int[] moving = Check.packet(1, 3, 0, head(9));
            moving[2] = mark;
            Check.dueText("kind 3, mark " + mark, Check.comes(Check.stocked(1), moving), right ? NO_USE : BROKEN);
            int[] whole = Check.packet(1, 4, 0, head(9));
            whole[7] = mark;
            Check.dueText("kind 4, mark " + mark, Check.comes(Check.stocked(1), whole),
                    mark == 0 ? "1" : mark == 128 ? FAILED : BROKEN);
        }
        int[] marked = Check.head(0, 0, true, 9, 5, 9);
        HeaderSqueeze x = Check.stocked(1);
        Check.dueText("kind 4, a mark", Check.comes(x, Check.packet(1, 4, 0, marked)), "1");
        Check.dueMade("kind 4, a mark", x, marked);
        Check.dueText("kind 3, a mark", Check.comes(x, Check.packet(1, 3, 0, marked)), "1");
        Check.dueMade("kind 3, a mark", x, marked);
    }

    /** Context 0, 0, stride 0, phase 5, offset 0; LAST and FORMER are 8. */
    private static HeaderSqueeze whole() {
        HeaderSqueeze x = Check.stocked(1);
        Check.dueText("the first head", Check.comes(x, Check.packet(1, 4, 0, head(8))), "1");
        return x;
    }

    /** It falls by packets of kind 4 of flow 2 that are told to be of flow 1, and fail. */
    private static HeaderSqueeze atLevel(int level) {
        HeaderSqueeze x = whole();
        for (int i = 1; i <= 6 - level * 3; i++) {
            x.stride(2, i);
            x.send(2, 0, 0, 0);
            x.spoil(7, 0, 3);
            x.spoil(7, 16, 1);
            Check.dueText("failure " + i, Check.answer(() -> x.deliver(7)), FAILED);
        }
        Check.dueReceiver("fallen to level " + level, x, 1, level, 8, 8, 0);
        return x;
    }

    private static void promise10NoUseByKindAndLevel() {
        for (int level = 0; level <= 2; level++) {
            for (int kind = 0; kind <= 4; kind++) {
                HeaderSqueeze x = atLevel(level);
                boolean ofUse = kind == 4 || kind == 3 && level > 0 || level == 2;
                String what = "kind " + kind + " at level " + level;
                Check.dueText(what, Check.comes(x, Check.packet(1, kind, 0, head(9))), ofUse ? "1" : NO_USE);
                Check.due(what + ", counted", x.count(9), ofUse ? 0 : 1);
                Check.due(what + ", off the line", x.line(), 6);
                Check.dueReceiver(what, x, 1, ofUse ? 2 : level, ofUse ? 9 : 8,
                        ofUse && level == 0 ? 9 : 8, 0);
            }
        }
        for (int kind = 0; kind <= 3; kind++) {
            Check.dueText("of no use before any head, kind " + kind,
                    Check.comes(Check.stocked(1), Check.packet(1, kind, 0, head(9))), NO_USE);
        }
    }

    private static void promise10FailsByItsSumAlone() {
        int[] sums = {8, 128, 256, 256, 256};
        int[] steps = {16, 64, 1024};
        for (int kind = 0; kind <= 4; kind++) {
            int[] right = Check.packet(1, kind, 0, head(9));
            int[] further = kind < 3 ? Check.packet(1, kind, 0, head(9 + steps[kind])) : right;
            int end = right.length - 1;
            for (int bits = 0; bits < sums[kind]; bits++) {
                int[] packet = right.clone();
                packet[end] ^= bits;
                String want = bits == 0 ? "1" : packet[end] == further[end] ? "5" : FAILED;
                dueBySum("kind " + kind + ", sum changed by " + bits, packet, want);
            }
        }
    }

    private static void dueBySum(String what, int[] packet, String want) {
        HeaderSqueeze x = whole();
        Check.dueText(what, Check.comes(x, packet), want);
        Check.due(what + ", failed", x.count(10), want.equals(FAILED) ? 1 : 0);
        if (want.equals(FAILED)) {
            Check.dueMade(what, x, head(8));
            Check.dueReceiver(what, x, 1, 2, 8, 8, 1);
        }
    }

    private static void promise10RefusedChangesOnlyItsCount() {
        int[] other = Check.packet(1, 3, 0, Check.head(0, 0, true, 30000, 77, 78));
        int[] noUse = other.clone();
        noUse[0] = 226;
        dueOnlyCounted("of no use", noUse, NO_USE, "0 1 0", 0);
        other[11] ^= 1;
        dueOnlyCounted("failing", other, FAILED, "0 0 1", 1);
        other[2] = 127;
        dueOnlyCounted("broken", other, BROKEN, "1 0 0", 0);
        int[] whole = Check.packet(1, 4, 9, Check.head(7, 7, true, 30000, 77, 78));
        whole[16] ^= 1;
        dueOnlyCounted("failing, kind 4", whole, FAILED, "0 0 1", 1);
        whole[4] = 135;
        dueOnlyCounted("broken, kind 4", whole, BROKEN, "1 0 0", 0);
    }

    /** The packet comes to one object, and is lost by its twin. */
    private static void dueOnlyCounted(String what, int[] packet, String want, String counts, int failures) {
        HeaderSqueeze x = whole();
        HeaderSqueeze twin = whole();
        Check.dueText(what, Check.comes(x, packet), want);
        twin.lose(packet.length == 17 ? 0 : 5);
        String due = Check.all(twin).replace("receiver 2 8 8 0", "receiver 2 8 8 " + failures)
                .replace("count 1 1 1 2 3 84 1 0 0 0 0", "count 1 1 1 2 3 84 1 0 " + counts);
        Check.dueText(what + ", all else as if lost", Check.all(x), due);
        int[] next = Check.packet(1, 0, 0, head(9));
        Check.dueText(what + ", the next one", Check.comes(x, next), "1");
        Check.dueMade(what + ", the next one", x, head(9));
        Check.dueReceiver(what + ", the next one", x, 1, 2, 9, 8, 0);
    }
}
