/**
 * Squeezes the heads of packets into a few bytes on one side of a line that
 * loses and spoils packets, and makes them whole again on the other side.
 */
public final class HeaderSqueeze {
    private static final int FLOWS = 4;
    private static final int MOST_IN_TWO_BYTES = 65535;
    private static final int MOST_IN_A_BYTE = 255;
    private static final int MOST_TYPE = 127;

    private static final int HEAD_BYTES = 11;
    private static final int NUMBER_AT = 3;
    private static final int MARK_BIT = 128;

    private static final int LINE_ROOM = 8;
    private static final int LONGEST_PACKET = 17;
    private static final int FLOW_BYTE = 224;
    private static final int MOVING_BYTE = 248;
    private static final int WHOLE_BYTE = 253;

    private static final int NO_KIND = -1;
    private static final int KIND_MOVING = 3;
    private static final int KIND_WHOLE = 4;
    /** By kind: the bytes of a packet, behind that of a flow. */
    private static final int[] PACKET_BYTES = {1, 2, 3, 11, 16};
    /** By kind: the sum at first (all its bits, so it is their mask too), and what they are changed by. */
    private static final int[] SUM_AT_FIRST = {7, 127, 255, 255, 255};
    private static final int[] SUM_CHANGE = {6, 121, 224, 224, 224};
    /** By kind, 0 to 2: 2^b less 1, so that it masks b bits, and p. */
    private static final int[] LOW_BITS = {15, 63, 1023};
    private static final int[] STEPS_BACK = {1, 3, 31};

    private static final int STATE_WHOLE = 0;
    private static final int STATE_MOVING = 1;
    private static final int STATE_SMALL = 2;
    private static final int SENDS_TO_BE_SURE = 3;
    private static final int OLDEST = 20;
    private static final int NUMBERS_KEPT = 4;

    private static final int LEVEL_NOTHING = 0;
    private static final int LEVEL_ALL = 2;
    private static final int FAILURES_TO_FALL = 3;

    private static final int OUTCOME_FAILED = 0;
    private static final int OUTCOME_MADE = 1;
    private static final int OUTCOME_REPAIRED = 2;

    private static final int COUNT_BYTES = 5;
    private static final int COUNT_MADE = 6;
    private static final int COUNT_REPAIRED = 7;
    private static final int COUNT_BROKEN = 8;
    private static final int COUNT_NO_USE = 9;
    private static final int COUNT_FAILED = 10;
    private static final int COUNTS = 11;

    private static final int LOST_AT_ONCE = 8;
    private static final int REPAIRED = 4;

    private final Head next = new Head();
    private final Line onTheWay = new Line();
    private final Sender[] senders = new Sender[FLOWS];
    private final Receiver[] receivers = new Receiver[FLOWS];
    private final int[] counts = new int[COUNTS];
    private Head latest = new Head();
    /** A head is tried here first, so that a failed one leaves the latest alone. */
    private Head trial = new Head();

    public HeaderSqueeze() {
        for (int i = 0; i < FLOWS; i++) {
            senders[i] = new Sender();
            receivers[i] = new Receiver();
        }
    }

    public void stride(int flow, int stride) throws IndexOutOfBoundsException, IllegalArgumentException {
        if (isNoFlow(flow)) {
            throw new IndexOutOfBoundsException();
        }
        if (isNotInTwoBytes(stride)) {
            throw new IllegalArgumentException();
        }
        senders[flow].wishedStride = stride;
    }

    public void head(int address, int type, boolean mark) throws IllegalArgumentException {
        if (isNotInTwoBytes(address) || type < 0 || type > MOST_TYPE) {
            throw new IllegalArgumentException();
        }
        next.address = address;
        next.type = type;
        next.mark = mark;
    }

    public int send(int flow, int number, int time, int id)
            throws IndexOutOfBoundsException, IllegalArgumentException {
        if (isNoFlow(flow)) {
            throw new IndexOutOfBoundsException();
        }
        if (isNotInTwoBytes(number) || isNotInTwoBytes(id)) {
            throw new IllegalArgumentException();
        }
        next.number = number;
        next.time = time;
        next.id = id;
        Sender sender = senders[flow];
        int kind = sender.chooseKind(next);
        Packet packet = onTheWay.rowBehind();
        packet.write(flow, kind, next, sender.wishedStride);
        sender.noteSent(kind, number);
        counts[kind]++;
        counts[COUNT_BYTES] += packet.length;
        return onTheWay.addRowBehind() ? kind : kind + LOST_AT_ONCE;
    }

    public int line() {
        return onTheWay.packets;
    }

    public int size(int k) throws IndexOutOfBoundsException {
        if (isNoPacket(k)) {
            throw new IndexOutOfBoundsException();
        }
        return onTheWay.rows[k].length;
    }

    public int byteAt(int k, int i) throws IndexOutOfBoundsException {
        if (isNoPacket(k) || isNoByte(k, i)) {
            throw new IndexOutOfBoundsException();
        }
        return onTheWay.rows[k].bytes[i];
    }

    public void spoil(int k, int i, int m) throws IndexOutOfBoundsException, IllegalArgumentException {
        if (isNoPacket(k) || isNoByte(k, i)) {
            throw new IndexOutOfBoundsException();
        }
        if (m < 0 || m > MOST_IN_A_BYTE) {
            throw new IllegalArgumentException();
        }
        onTheWay.rows[k].bytes[i] ^= m;
    }

    public void lose(int k) throws IndexOutOfBoundsException {
        if (isNoPacket(k)) {
            throw new IndexOutOfBoundsException();
        }
        onTheWay.takeOff(k);
    }

    public int deliver(int k) throws IndexOutOfBoundsException, IllegalArgumentException,
            IllegalStateException, ArithmeticException {
        if (isNoPacket(k)) {
            throw new IndexOutOfBoundsException();
        }
        Packet packet = onTheWay.takeOff(k);
        packet.read();
        if (packet.kind == NO_KIND) {
            counts[COUNT_BROKEN]++;
            throw new IllegalArgumentException();
        }
        Receiver receiver = receivers[packet.flow];
        if (!receiver.hasUseFor(packet.kind)) {
            counts[COUNT_NO_USE]++;
            throw new IllegalStateException();
        }
        int outcome = receiver.take(packet, trial);
        if (outcome == OUTCOME_FAILED) {
            counts[COUNT_FAILED]++;
            throw new ArithmeticException();
        }
        keepTrial();
        counts[COUNT_MADE]++;
        if (outcome == OUTCOME_REPAIRED) {
            counts[COUNT_REPAIRED]++;
            return packet.flow + REPAIRED;
        }
        return packet.flow;
    }

    public int made(int i) throws IndexOutOfBoundsException {
        if (i < 0 || i >= HEAD_BYTES) {
            throw new IndexOutOfBoundsException();
        }
        return latest.part(i);
    }

    public int sender(int flow, int which) throws IndexOutOfBoundsException, IllegalArgumentException {
        if (isNoFlow(flow)) {
            throw new IndexOutOfBoundsException();
        }
        Sender sender = senders[flow];
        switch (which) {
            case 0: return sender.state;
            case 1: return sender.sentInState;
            case 2: return sender.age;
            case 3: return sender.context.phase;
            case 4: return sender.context.offset;
            default: throw new IllegalArgumentException();
        }
    }

    public int receiver(int flow, int which) throws IndexOutOfBoundsException, IllegalArgumentException {
        if (isNoFlow(flow)) {
            throw new IndexOutOfBoundsException();
        }
        Receiver receiver = receivers[flow];
        switch (which) {
            case 0: return receiver.level;
            case 1: return receiver.last;
            case 2: return receiver.former;
            case 3: return receiver.failures;
            default: throw new IllegalArgumentException();
        }
    }

    public int count(int which) throws IllegalArgumentException {
        if (which < 0 || which >= COUNTS) {
            throw new IllegalArgumentException();
        }
        return counts[which];
    }

    private void keepTrial() {
        Head before = latest;
        latest = trial;
        trial = before;
    }

    private boolean isNoPacket(int k) {
        return k < 0 || k >= onTheWay.packets;
    }

    /** Asked only of a packet that there is. */
    private boolean isNoByte(int k, int i) {
        return i < 0 || i >= onTheWay.rows[k].length;
    }

    private static boolean isNoFlow(int flow) {
        return flow < 0 || flow >= FLOWS;
    }

    private static boolean isNotInTwoBytes(int value) {
        return value < 0 || value > MOST_IN_TWO_BYTES;
    }

    private static final class Head {
        int address;
        int type;
        boolean mark;
        int number;
        int time;
        int id;

        int part(int i) {
            switch (i) {
                case 0: return address >>> 8;
                case 1: return address & 255;
                case 2: return type + markBit();
                case 3: return number >>> 8;
                case 4: return number & 255;
                case 5: return time >>> 24;
                case 6: return (time >>> 16) & 255;
                case 7: return (time >>> 8) & 255;
                case 8: return time & 255;
                case 9: return id >>> 8;
                default: return id & 255;
            }
        }

        int markBit() {
            return mark ? MARK_BIT : 0;
        }

        /** The stride is asked for any kind, but only kind 4 has to keep it safe by its sum. */
        int sumFor(int kind, int stride) {
            int sum = SUM_AT_FIRST[kind];
            int change = SUM_CHANGE[kind];
            for (int i = 0; i < HEAD_BYTES; i++) {
                sum = sumBehind(sum, change, part(i));
            }
            if (kind == KIND_WHOLE) {
                sum = sumBehind(sum, change, stride >>> 8);
                sum = sumBehind(sum, change, stride & 255);
            }
            return sum;
        }

        private static int sumBehind(int sumBefore, int change, int oneByte) {
            int sum = sumBefore;
            for (int bit = 0; bit < 8; bit++) {
                boolean differs = ((sum ^ (oneByte >>> bit)) & 1) != 0;
                sum >>>= 1;
                if (differs) {
                    sum ^= change;
                }
            }
            return sum;
        }
    }

    private static final class Context {
        int address;
        int type;
        int stride;
        int phase;
        int offset;

        boolean isOf(Head head) {
            return address == head.address && type == head.type;
        }

        boolean goesAlong(Head head) {
            return isOf(head) && phase == phaseOf(head, stride) && offset == offsetOf(head);
        }

        void follow(Head head, int newStride) {
            address = head.address;
            type = head.type;
            stride = newStride;
            phase = phaseOf(head, newStride);
            offset = offsetOf(head);
        }

        /** The mark is left as it is: a context says nothing about it. */
        void complete(Head head, int number) {
            head.address = address;
            head.type = type;
            head.number = number;
            head.time = phase + number * stride;
            head.id = (offset + number) & MOST_IN_TWO_BYTES;
        }

        private static int phaseOf(Head head, int stride) {
            return head.time - head.number * stride;
        }

        private static int offsetOf(Head head) {
            return (head.id - head.number) & MOST_IN_TWO_BYTES;
        }
    }

    private static final class Packet {
        final int[] bytes = new int[LONGEST_PACKET];
        int length;
        int flow;
        int kind;
        private int start;

        void write(int flowOfHead, int kindOfPacket, Head head, int stride) {
            int sum = head.sumFor(kindOfPacket, stride);
            int low = kindOfPacket < KIND_MOVING ? head.number & LOW_BITS[kindOfPacket] : 0;
            length = 0;
            if (flowOfHead != 0) {
                put(FLOW_BYTE + flowOfHead);
            }
            switch (kindOfPacket) {
                case 0:
                    put(low * 8 + sum);
                    break;
                case 1:
                    put(128 + low);
                    put(head.markBit() + sum);
                    break;
                case 2:
                    put(192 + (low >>> 5));
                    put((low & 31) * 8 + (head.mark ? 4 : 0));
                    put(sum);
                    break;
                case KIND_MOVING:
                    put(MOVING_BYTE);
                    putMoving(head, sum);
                    break;
                default:
                    put(WHOLE_BYTE);
                    putTwo(head.address);
                    put(head.type);
                    putTwo(stride);
                    putMoving(head, sum);
                    break;
            }
        }

        private void putMoving(Head head, int sum) {
            put(head.markBit());
            for (int i = NUMBER_AT; i < HEAD_BYTES; i++) {
                put(head.part(i));
            }
            put(sum);
        }

        private void putTwo(int value) {
            put(value >>> 8);
            put(value & 255);
        }

        private void put(int value) {
            if (length < LONGEST_PACKET) {
                bytes[length] = value;
                length++;
            }
        }

        /** Not done when it is written: it may be spoiled until it comes. */
        void read() {
            boolean tellsFlow = bytes[0] > FLOW_BYTE && bytes[0] < FLOW_BYTE + FLOWS;
            flow = tellsFlow ? bytes[0] - FLOW_BYTE : 0;
            start = tellsFlow ? 1 : 0;
            kind = start < length ? kindTold(bytes[start]) : NO_KIND;
            if (kind != NO_KIND && isMisshapen()) {
                kind = NO_KIND;
            }
        }

        private static int kindTold(int firstByte) {
            if (firstByte < 128) {
                return 0;
            }
            if (firstByte < 192) {
                return 1;
            }
            if (firstByte < 224) {
                return 2;
            }
            if (firstByte == MOVING_BYTE) {
                return KIND_MOVING;
            }
            return firstByte == WHOLE_BYTE ? KIND_WHOLE : NO_KIND;
        }

        private boolean isMisshapen() {
            if (length - start != PACKET_BYTES[kind]) {
                return true;
            }
            switch (kind) {
                case 2: return (own(1) & 3) != 0;
                case KIND_MOVING: return isNoMark(own(1));
                case KIND_WHOLE: return own(3) > MOST_TYPE || isNoMark(own(6));
                default: return false;
            }
        }

        private static boolean isNoMark(int value) {
            return value != 0 && value != MARK_BIT;
        }

        private int own(int i) {
            return bytes[start + i];
        }

        private int ownTwo(int i) {
            return own(i) * 256 + own(i + 1);
        }

        int sumTold() {
            return bytes[length - 1] & SUM_AT_FIRST[kind];
        }

        int lowTold() {
            switch (kind) {
                case 0: return own(0) >>> 3;
                case 1: return own(0) & 63;
                default: return (own(0) & 31) * 32 + (own(1) >>> 3);
            }
        }

        boolean markTold() {
            switch (kind) {
                case 0: return false;
                case 1: return own(1) >= MARK_BIT;
                default: return (own(1) & 4) != 0;
            }
        }

        int strideTold() {
            return ownTwo(4);
        }

        void readFixed(Head head) {
            head.address = ownTwo(1);
            head.type = own(3);
        }

        void readMoving(Head head) {
            int at = kind == KIND_WHOLE ? 6 : 1;
            head.mark = own(at) != 0;
            head.number = ownTwo(at + 1);
            head.time = ownTwo(at + 3) * 65536 + ownTwo(at + 5);
            head.id = ownTwo(at + 7);
        }
    }

    private static final class Line {
        /** One row more than there is room for: a packet that is lost at once is written too. */
        final Packet[] rows = new Packet[LINE_ROOM + 1];
        int packets;

        Line() {
            for (int i = 0; i <= LINE_ROOM; i++) {
                rows[i] = new Packet();
            }
        }

        Packet rowBehind() {
            return rows[packets];
        }

        boolean addRowBehind() {
            if (packets == LINE_ROOM) {
                return false;
            }
            packets++;
            return true;
        }

        /** The row goes behind the others, to be used again: till then it can still be read. */
        Packet takeOff(int k) {
            Packet taken = rows[k];
            packets--;
            for (int i = k; i < packets; i++) {
                rows[i] = rows[i + 1];
            }
            rows[packets] = taken;
            return taken;
        }
    }

    private static final class Sender {
        final Context context = new Context();
        int wishedStride;
        int state;
        int sentInState;
        int age;
        private boolean hasContext;
        private final int[] numbers = new int[NUMBERS_KEPT];
        private int numbersSent;

        int chooseKind(Head head) {
            if (!hasContext || !context.isOf(head) || context.stride != wishedStride || age == OLDEST) {
                enter(STATE_WHOLE);
            } else if (!context.goesAlong(head)) {
                enter(state == STATE_WHOLE ? STATE_WHOLE : STATE_MOVING);
            }
            context.follow(head, wishedStride);
            hasContext = true;
            switch (state) {
                case STATE_WHOLE: return KIND_WHOLE;
                case STATE_MOVING: return KIND_MOVING;
                default: return smallestKind(head);
            }
        }

        void noteSent(int kind, int number) {
            age = kind == KIND_WHOLE ? 0 : age + 1;
            numbers[numbersSent & (NUMBERS_KEPT - 1)] = number;
            numbersSent++;
            sentInState++;
            if (state != STATE_SMALL && sentInState == SENDS_TO_BE_SURE) {
                enter(STATE_SMALL);
            }
        }

        private void enter(int newState) {
            state = newState;
            sentInState = 0;
        }

        private int smallestKind(Head head) {
            if (!head.mark && isEnough(0, head.number)) {
                return 0;
            }
            if (isEnough(1, head.number)) {
                return 1;
            }
            return isEnough(2, head.number) ? 2 : KIND_MOVING;
        }

        /** All of the last numbers are asked, as any of them may be the latest one that came. */
        private boolean isEnough(int kind, int number) {
            int known = Math.min(numbersSent, NUMBERS_KEPT);
            for (int i = 0; i < known; i++) {
                int ahead = (number - numbers[i] + STEPS_BACK[kind]) & MOST_IN_TWO_BYTES;
                if (ahead > LOW_BITS[kind]) {
                    return false;
                }
            }
            return true;
        }
    }

    private static final class Receiver {
        private final Context context = new Context();
        int level;
        int last;
        int former;
        int failures;

        boolean hasUseFor(int kind) {
            if (kind == KIND_WHOLE) {
                return true;
            }
            return kind == KIND_MOVING ? level != LEVEL_NOTHING : level == LEVEL_ALL;
        }

        int take(Packet packet, Head head) {
            int outcome = packet.kind < KIND_MOVING ? makeSmall(packet, head) : makeMoving(packet, head);
            if (outcome == OUTCOME_FAILED) {
                noteFailure();
            } else {
                noteMade(head.number);
            }
            return outcome;
        }

        private int makeMoving(Packet packet, Head head) {
            int stride = context.stride;
            if (packet.kind == KIND_WHOLE) {
                stride = packet.strideTold();
                packet.readFixed(head);
            } else {
                head.address = context.address;
                head.type = context.type;
            }
            packet.readMoving(head);
            if (head.sumFor(packet.kind, stride) != packet.sumTold()) {
                return OUTCOME_FAILED;
            }
            context.follow(head, stride);
            return OUTCOME_MADE;
        }

        private int makeSmall(Packet packet, Head head) {
            int nearLast = numberNear(last, packet);
            if (fits(packet, head, nearLast)) {
                return OUTCOME_MADE;
            }
            int further = (nearLast + LOW_BITS[packet.kind] + 1) & MOST_IN_TWO_BYTES;
            boolean repaired = fits(packet, head, further)
                    || fits(packet, head, numberNear(former, packet));
            return repaired ? OUTCOME_REPAIRED : OUTCOME_FAILED;
        }

        private static int numberNear(int reference, Packet packet) {
            int first = reference - STEPS_BACK[packet.kind];
            int steps = (packet.lowTold() - first) & LOW_BITS[packet.kind];
            return (first + steps) & MOST_IN_TWO_BYTES;
        }

        private boolean fits(Packet packet, Head head, int number) {
            context.complete(head, number);
            head.mark = packet.markTold();
            return head.sumFor(packet.kind, context.stride) == packet.sumTold();
        }

        private void noteMade(int number) {
            former = level == LEVEL_NOTHING ? number : last;
            last = number;
            level = LEVEL_ALL;
            failures = 0;
        }

        private void noteFailure() {
            failures++;
            if (failures == FAILURES_TO_FALL) {
                failures = 0;
                level = Math.max(level - 1, LEVEL_NOTHING);
            }
        }
    }
}
