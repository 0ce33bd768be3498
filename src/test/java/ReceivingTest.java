/** Promises 10, 11, 13 and 14: deliver, made, receiver, count. */
public final class ReceivingTest {
    private static final Class<IndexOutOfBoundsException> INDEX = IndexOutOfBoundsException.class;
    private static final Class<IllegalArgumentException> ARGUMENT = IllegalArgumentException.class;
    private static final Class<IllegalStateException> STATE = IllegalStateException.class;
    private static final Class<ArithmeticException> ARITHMETIC = ArithmeticException.class;

    public static void main(String[] args) {
        promise10And11EveryKindIsMadeWhole();
        promise10KindZeroHasNoMark();
        promise10NumberGoesRound();
        promise10OffTheLine();
        promise10WindowsOfTheReceivingSide();
        promise10BrokenByFirstByte();
        promise10BrokenByLength();
        promise10BrokenByMarkAndType();
        promise10NoUse();
        promise10FailsAndFalls();
        promise10MovingIsMadeOfLevelOne();
        promise10EachSpoiltBitOfWholeFails();
        promise10RepairedFurtherOn();
        promise10RepairedFromFormer();
        promise11WrongAskingAndNoHead();
        promise13LastAndFormer();
        promise13WrongAsking();
        promise14Counts();
        Check.end();
    }

    /** Address 4660, type 97; the context goes along with time 1000 + 160 * number, id number + 5. */
    private static HeaderSqueeze whole(int flow, int... numbers) {
        HeaderSqueeze x = new HeaderSqueeze();
        x.stride(flow, 160);
        x.head(4660, 97, false);
        for (int number : numbers) {
            sendAlong(x, flow, number);
            x.deliver(0);
        }
        return x;
    }

    private static int sendAlong(HeaderSqueeze x, int flow, int number) {
        return x.send(flow, number, 1000 + number * 160, (number + 5) % 65536);
    }

    private static int[] headAlong(boolean mark, int number) {
        return Check.head(4660, 97, mark, number, 1000 + number * 160, (number + 5) % 65536);
    }

    private static void promise10And11EveryKindIsMadeWhole() {
        for (int flow = 0; flow < 4; flow++) {
            HeaderSqueeze x = whole(flow, 1, 2, 3);
            Check.dueMade("kind 4", x, headAlong(false, 3));
            int[] numbers = {4, 60, 900, 7000};
            for (int i = 0; i < numbers.length; i++) {
                Check.due("flow " + flow + ", kind " + i, sendAlong(x, flow, numbers[i]), i);
                Check.due("flow " + flow + ", kind " + i + " delivered", x.deliver(0), flow);
                Check.dueMade("kind " + i, x, headAlong(false, numbers[i]));
            }
            x.head(4660, 97, true);
            int[] marked = {7001, 7002, 7003, 7004, 7060, 7900, 14000};
            int[] kinds = {3, 3, 3, 1, 1, 2, 3};
            for (int i = 0; i < marked.length; i++) {
                Check.due("marked " + i, sendAlong(x, flow, marked[i]), kinds[i]);
                Check.due("marked " + i + " delivered", x.deliver(0), flow);
                Check.dueMade("marked " + i, x, headAlong(true, marked[i]));
            }
            Check.dueReceiver("all of them", x, flow, 2, 14000, 7900, 0);
        }
        HeaderSqueeze highest = new HeaderSqueeze();
        highest.stride(0, 65535);
        highest.head(65535, 127, true);
        highest.send(0, 65535, -1, 65535);
        highest.send(0, 65535, Integer.MIN_VALUE, 0);
        Check.due("the highest head", highest.deliver(0), 0);
        Check.dueMade("the highest head", highest, Check.head(65535, 127, true, 65535, -1, 65535));
        Check.due("the lowest time", highest.deliver(0), 0);
        Check.dueMade("the lowest time", highest, Check.head(65535, 127, true, 65535, Integer.MIN_VALUE, 0));
    }

    private static void promise10KindZeroHasNoMark() {
        HeaderSqueeze x = whole(0, 1, 2, 3);
        x.head(4660, 97, true);
        sendAlong(x, 0, 4);
        x.deliver(0);
        Check.due("a mark", x.made(2), 225);
        x.head(4660, 97, false);
        Check.due("kind 0", sendAlong(x, 0, 5), 0);
        x.deliver(0);
        Check.due("no mark again", x.made(2), 97);
    }

    private static void promise10NumberGoesRound() {
        HeaderSqueeze x = new HeaderSqueeze();
        x.stride(0, 3000);
        for (int i = 0; i < 20; i++) {
            int number = (65526 + i) % 65536;
            int id = (65530 + i) % 65536;
            Check.due("round " + i, x.send(0, number, 7 + number * 3000, id), i < 3 ? 4 : 0);
            Check.due("round " + i + " delivered", x.deliver(0), 0);
            Check.dueMade("round " + i, x, Check.head(0, 0, false, number, 7 + number * 3000, id));
        }
        HeaderSqueeze back = whole(0, 0, 1, 0);
        Check.due("one back over 0", sendAlong(back, 0, 65535), 1);
        Check.due("one back over 0 delivered", back.deliver(0), 0);
        Check.dueMade("one back over 0", back, headAlong(false, 65535));
    }

    private static void promise10OffTheLine() {
        HeaderSqueeze x = whole(0, 1, 2, 3);
        Check.dueThrow("deliver(0) of none", INDEX, () -> x.deliver(0));
        sendAlong(x, 0, 4);
        sendAlong(x, 0, 50);
        sendAlong(x, 0, 800);
        Check.dueThrow("deliver(-1)", INDEX, () -> x.deliver(-1));
        Check.dueThrow("deliver(3)", INDEX, () -> x.deliver(3));
        Check.due("none delivered", x.line(), 3);
        Check.dueCounts("none delivered", x, 1, 1, 1, 0, 3, 54, 3, 0, 0, 0, 0);
        Check.due("the one between", x.deliver(1), 0);
        Check.due("the others stay", x.size(0), 1);
        Check.due("the others stay", x.size(1), 3);
        Check.dueMade("the one between", x, headAlong(false, 50));
    }

    /** Twelve packets are lost behind LAST 100, so that it is not what the sending side counts from. */
    private static void promise10WindowsOfTheReceivingSide() {
        for (int ahead = 1; ahead <= 14; ahead++) {
            HeaderSqueeze x = whole(0, 100, 100, 100);
            for (int n = 101; n < 100 + ahead; n++) {
                Check.due("kind of " + n, sendAlong(x, 0, n), 0);
                x.lose(0);
            }
            Check.due("kind of " + (100 + ahead), sendAlong(x, 0, 100 + ahead), 0);
            Check.due(ahead + " ahead", x.deliver(0), 0);
            Check.dueMade(ahead + " ahead", x, headAlong(false, 100 + ahead));
        }
        int[] kind1 = {97, 98, 115, 160};
        int[] kind2 = {69, 96, 161, 1092};
        for (int i = 0; i < 4; i++) {
            HeaderSqueeze x = whole(0, 100, 100, 100);
            Check.due("kind 1, " + kind1[i], sendAlong(x, 0, kind1[i]), 1);
            Check.due("kind 1, " + kind1[i], x.deliver(0), 0);
            Check.dueMade("kind 1", x, headAlong(false, kind1[i]));
            HeaderSqueeze y = whole(0, 100, 100, 100);
            Check.due("kind 2, " + kind2[i], sendAlong(y, 0, kind2[i]), 2);
            Check.due("kind 2, " + kind2[i], y.deliver(0), 0);
            Check.dueMade("kind 2", y, headAlong(false, kind2[i]));
        }
    }

    /** Each first byte in front of eleven bytes, for flow 0 and behind that of a flow. */
    private static void promise10BrokenByFirstByte() {
        for (int flow = 0; flow < 2; flow++) {
            for (int first = 0; first < 256; first++) {
                HeaderSqueeze x = whole(flow, 1, 2, 3);
                sendAlong(x, flow, 7000);
                x.spoil(0, flow, first ^ 248);
                if (first == 248) {
                    Check.due("first byte 248", x.deliver(0), flow);
                } else {
                    Check.dueThrow("first byte " + first, ARGUMENT, () -> x.deliver(0));
                }
                Check.due("off the line", x.line(), 0);
                Check.due("broken", x.count(8), first == 248 ? 0 : 1);
            }
        }
    }

    private static void promise10BrokenByLength() {
        for (int first = 0; first < 256; first++) {
            HeaderSqueeze one = whole(0, 1, 2, 3);
            sendAlong(one, 0, 4);
            one.spoil(0, 0, one.byteAt(0, 0) ^ first);
            if (first >= 128) {
                Check.dueThrow("one byte alone, " + first, ARGUMENT, () -> one.deliver(0));
            } else {
                Check.due("one byte alone is shaped well, " + first, countsBroken(one), 0);
            }
            HeaderSqueeze two = whole(0, 1, 2, 3);
            sendAlong(two, 0, 60);
            two.spoil(0, 0, two.byteAt(0, 0) ^ first);
            boolean shaped = first >= 128 && first < 192 || first >= 225 && first < 228;
            Check.due("two bytes, " + first, countsBroken(two), shaped ? 0 : 1);
            HeaderSqueeze three = whole(0, 1, 2, 3);
            sendAlong(three, 0, 900);
            three.spoil(0, 0, three.byteAt(0, 0) ^ first);
            Check.due("three bytes, " + first, countsBroken(three), first >= 192 && first < 224 ? 0 : 1);
            HeaderSqueeze sixteen = new HeaderSqueeze();
            sendAlong(sixteen, 0, 900);
            sixteen.spoil(0, 0, 253 ^ first);
            Check.due("sixteen bytes, " + first, countsBroken(sixteen), first == 253 ? 0 : 1);
        }
    }

    private static int countsBroken(HeaderSqueeze x) {
        Check.answer(() -> x.deliver(0));
        return x.count(8);
    }

    private static void promise10BrokenByMarkAndType() {
        for (int bits = 0; bits < 256; bits++) {
            HeaderSqueeze x = whole(1, 1, 2, 3);
            sendAlong(x, 1, 900);
            x.spoil(0, 2, bits);
            Check.due("second byte of kind 2 by " + bits, countsBroken(x), bits % 4 == 0 ? 0 : 1);
            HeaderSqueeze y = whole(1, 1, 2, 3);
            sendAlong(y, 1, 9000);
            y.spoil(0, 2, bits);
            Check.due("mark of kind 3 by " + bits, countsBroken(y), bits % 128 == 0 ? 0 : 1);
            HeaderSqueeze z = new HeaderSqueeze();
            sendAlong(z, 1, 9000);
            z.spoil(0, 7, bits);
            Check.due("mark of kind 4 by " + bits, countsBroken(z), bits % 128 == 0 ? 0 : 1);
            HeaderSqueeze t = new HeaderSqueeze();
            sendAlong(t, 1, 9000);
            t.spoil(0, 4, bits);
            Check.due("type of kind 4 by " + bits, countsBroken(t), bits < 128 ? 0 : 1);
        }
        HeaderSqueeze x = new HeaderSqueeze();
        x.head(1, 127, true);
        sendAlong(x, 1, 5);
        x.spoil(0, 4, 128);
        Check.dueThrow("type 255", ARGUMENT, () -> x.deliver(0));
        Check.dueReceiver("broken does not fail", x, 1, 0, 0, 0, 0);
        Check.dueMade("broken makes nothing", x, new int[11]);
    }

    private static void promise10NoUse() {
        HeaderSqueeze x = whole(2);
        for (int n = 1; n <= 3; n++) {
            sendAlong(x, 2, n);
            x.lose(0);
        }
        int[] numbers = {4, 60, 900, 7000};
        for (int i = 0; i < 4; i++) {
            Check.due("kind " + i, sendAlong(x, 2, numbers[i]), i);
            Check.dueThrow("no use at level 0, kind " + i, STATE, () -> x.deliver(0));
            Check.due("off the line", x.line(), 0);
            Check.due("no use, counted", x.count(9), i + 1);
            Check.dueReceiver("no use", x, 2, 0, 0, 0, 0);
        }
        Check.dueMade("no use makes nothing", x, new int[11]);
    }

    /** Kind 4 by a stride not wished before, spoilt in its sum, so that it fails. */
    private static void failWhole(String what, HeaderSqueeze x, int flow) {
        x.head(1, 1, false);
        x.stride(flow, 200 + x.count(4));
        Check.due(what, x.send(flow, 50000, 0, 0), 4);
        int k = x.line() - 1;
        x.spoil(k, x.size(k) - 1, 1);
        Check.dueThrow(what, ARITHMETIC, () -> x.deliver(k));
        x.head(4660, 97, false);
        x.stride(flow, 160);
    }

    private static void promise10FailsAndFalls() {
        HeaderSqueeze x = whole(1, 1, 2, 3, 4);
        for (int i = 1; i <= 6; i++) {
            failWhole("failure " + i, x, 1);
            Check.dueReceiver("failure " + i, x, 1, i < 3 ? 2 : i < 6 ? 1 : 0, 4, 3, i % 3);
            Check.due("failure " + i, x.count(10), i);
            Check.due("off the line", x.line(), 0);
            Check.dueMade("a failure makes nothing", x, headAlong(false, 4));
        }
        for (int i = 7; i <= 9; i++) {
            failWhole("failure " + i, x, 1);
            Check.dueReceiver("failure at level 0, " + i, x, 1, 0, 4, 3, i % 3);
        }
        failWhole("the last failure", x, 1);
        Check.due("whole again", sendAlong(x, 1, 70), 4);
        Check.due("whole again", x.deliver(0), 1);
        Check.dueReceiver("both numbers from level 0 on", x, 1, 2, 70, 70, 0);
        failWhole("one between", x, 1);
        failWhole("two between", x, 1);
        sendAlong(x, 1, 71);
        x.deliver(0);
        Check.dueReceiver("none has failed", x, 1, 2, 71, 70, 0);
        failWhole("flow 2 alone", x, 2);
        Check.dueReceiver("flow 1 has its own failures", x, 1, 2, 71, 70, 0);
        Check.dueReceiver("flow 2", x, 2, 0, 0, 0, 1);
    }

    private static void promise10MovingIsMadeOfLevelOne() {
        HeaderSqueeze x = whole(0, 1, 2, 3, 4);
        sendAlong(x, 0, 5);
        sendAlong(x, 0, 60);
        sendAlong(x, 0, 900);
        x.send(0, 901, 77, 78);
        for (int i = 0; i < 3; i++) {
            failWhole("fall to level 1, " + i, x, 0);
        }
        for (int kind = 0; kind < 3; kind++) {
            Check.dueThrow("no use at level 1", STATE, () -> x.deliver(0));
        }
        Check.dueReceiver("no use at level 1", x, 0, 1, 4, 3, 0);
        Check.due("kind 3 at level 1", x.byteAt(0, 0), 248);
        Check.due("kind 3 at level 1", x.deliver(0), 0);
        Check.dueMade("kind 3 at level 1", x, Check.head(4660, 97, false, 901, 77, 78));
        Check.dueReceiver("kind 3 at level 1", x, 0, 2, 901, 4, 0);
    }

    /** Eight bits of sum find each single wrong bit; the context stays as it was. */
    private static void promise10EachSpoiltBitOfWholeFails() {
        for (int kind = 3; kind <= 4; kind++) {
            int size = kind == 3 ? 11 : 16;
            for (int bit = 8; bit < size * 8; bit++) {
                int at = bit / 8;
                int bits = 1 << bit % 8;
                boolean markOrType = kind == 3 ? at == 1 : at == 6 || at == 3;
                if (markOrType && (bits != 128 || at == 3)) {
                    continue;
                }
                HeaderSqueeze x = whole(0, 1, 2, 3);
                sendAlong(x, 0, 4);
                x.stride(0, kind == 3 ? 160 : 161);
                Check.due("kind", x.send(0, 5, 0, 0), kind);
                x.spoil(1, at, bits);
                Check.dueThrow("kind " + kind + ", bit " + bit, ARITHMETIC, () -> x.deliver(1));
                Check.dueReceiver("kind " + kind + ", bit " + bit, x, 0, 2, 3, 2, 1);
                Check.due("the context as before", x.deliver(0), 0);
                Check.dueMade("the context as before", x, headAlong(false, 4));
            }
        }
    }

    private static void promise10RepairedFurtherOn() {
        int[] steps = {16, 64, 1024};
        int[] back = {1, 3, 31};
        for (int kind = 0; kind < 3; kind++) {
            for (int flow = 0; flow < 4; flow++) {
                int step = steps[kind];
                HeaderSqueeze x = whole(flow, 10, 11, 12, 13);
                int number = loseUpTo(x, flow, 13 - back[kind] + step, step, kind);
                x.head(4660, 97, kind > 0);
                Check.due("kind", sendAlong(x, flow, number), kind);
                Check.due("repaired, kind " + kind, x.deliver(0), flow + 4);
                Check.dueMade("repaired, kind " + kind, x, headAlong(kind > 0, number));
                Check.dueReceiver("repaired, kind " + kind, x, flow, 2, number, 13, 0);
                Check.due("repaired, counted", x.count(7), 1);
                Check.due("made, counted", x.count(6), 5);
            }
        }
    }

    /** Loses packets until one can be sent that LAST 13 takes for one of 2^b less, with another sum. */
    private static int loseUpTo(HeaderSqueeze x, int flow, int first, int step, int kind) {
        int bits = kind == 0 ? 3 : kind == 1 ? 7 : 8;
        int number = first;
        while (Check.sum(bits, headAlong(kind > 0, number)) == Check.sum(bits, headAlong(kind > 0, number - step))) {
            number++;
        }
        int stride = Math.max(1, step / 8);
        for (int n = 14; n < number - 4 * stride; n += stride) {
            sendAlong(x, flow, n);
            x.lose(0);
        }
        for (int i = 0; i < 4; i++) {
            sendAlong(x, flow, number - step / 2);
            x.lose(0);
        }
        return number;
    }

    private static void promise10RepairedFromFormer() {
        for (int kind = 1; kind < 3; kind++) {
            HeaderSqueeze x = whole(3, 100, 101, 102, 103);
            x.head(4660, 97, true);
            int late = kind == 1 ? 104 : 200;
            Check.due("kept back", sendAlong(x, 3, late), kind);
            Check.due("far ahead", sendAlong(x, 3, 30000), 3);
            Check.due("far ahead", x.deliver(1), 3);
            Check.dueReceiver("far ahead", x, 3, 2, 30000, 103, 0);
            Check.due("late", x.deliver(0), 7);
            Check.dueMade("late", x, headAlong(true, late));
            Check.dueReceiver("late", x, 3, 2, late, 30000, 0);
            Check.due("repaired, counted", x.count(7), 1);
        }
        HeaderSqueeze x = whole(3, 100, 101, 102, 103);
        x.head(4660, 97, true);
        sendAlong(x, 3, 104);
        sendAlong(x, 3, 30000);
        sendAlong(x, 3, 30001);
        x.deliver(1);
        x.deliver(1);
        Check.dueThrow("too late", ARITHMETIC, () -> x.deliver(0));
        Check.dueReceiver("too late", x, 3, 2, 30001, 30000, 1);
    }

    private static void promise11WrongAskingAndNoHead() {
        HeaderSqueeze x = new HeaderSqueeze();
        x.head(65535, 127, true);
        x.send(0, 65535, -1, 65535);
        Check.dueMade("sent is not made", x, new int[11]);
        Check.dueThrow("made(-1)", INDEX, () -> x.made(-1));
        Check.dueThrow("made(11)", INDEX, () -> x.made(11));
        x.spoil(0, 15, 1);
        Check.dueThrow("spoilt", ARITHMETIC, () -> x.deliver(0));
        Check.dueMade("failed is not made", x, new int[11]);
        HeaderSqueeze two = whole(0, 1, 2, 3);
        two.send(1, 9, 9, 9);
        two.deliver(0);
        Check.dueMade("the latest of all flows", two, Check.head(4660, 97, false, 9, 9, 9));
        sendAlong(two, 0, 4);
        Check.dueMade("the latest stays", two, Check.head(4660, 97, false, 9, 9, 9));
    }

    private static void promise13LastAndFormer() {
        HeaderSqueeze x = whole(2);
        int[] numbers = {500, 501, 777, 777, 65535};
        int former = 500;
        for (int number : numbers) {
            sendAlong(x, 2, number);
            Check.due("sent alone, LAST", x.receiver(2, 1), number == 500 ? 0 : former);
            x.deliver(0);
            Check.dueReceiver("number " + number, x, 2, 2, number, former, 0);
            former = number;
        }
        Check.dueReceiver("another flow", x, 1, 0, 0, 0, 0);
    }

    private static void promise13WrongAsking() {
        HeaderSqueeze x = new HeaderSqueeze();
        Check.dueThrow("receiver(-1, 0)", INDEX, () -> x.receiver(-1, 0));
        Check.dueThrow("receiver(4, 0)", INDEX, () -> x.receiver(4, 0));
        Check.dueThrow("receiver(4, 9)", INDEX, () -> x.receiver(4, 9));
        Check.dueThrow("receiver(3, -1)", ARGUMENT, () -> x.receiver(3, -1));
        Check.dueThrow("receiver(3, 4)", ARGUMENT, () -> x.receiver(3, 4));
    }

    private static void promise14Counts() {
        HeaderSqueeze x = whole(0, 1, 2, 3);
        Check.dueCounts("three made", x, 0, 0, 0, 0, 3, 48, 3, 0, 0, 0, 0);
        int[] numbers = {4, 60, 900, 7000};
        for (int number : numbers) {
            sendAlong(x, 0, number);
        }
        Check.dueCounts("one of each kind", x, 1, 1, 1, 1, 3, 48 + 17, 3, 0, 0, 0, 0);
        x.spoil(3, 1, 1);
        Check.dueThrow("broken", ARGUMENT, () -> x.deliver(3));
        x.spoil(2, 2, 1);
        Check.dueThrow("failed", ARITHMETIC, () -> x.deliver(2));
        x.deliver(1);
        x.spoil(0, 0, (225 ^ x.byteAt(0, 0)));
        Check.dueThrow("broken", ARGUMENT, () -> x.deliver(0));
        Check.dueCounts("come", x, 1, 1, 1, 1, 3, 48 + 17, 4, 0, 2, 0, 1);
        x.stride(3, 160);
        for (int n = 1; n <= 9; n++) {
            sendAlong(x, 3, n);
        }
        x.spoil(0, 0, 1);
        Check.due("another flow's", x.deliver(0), 2);
        x.spoil(2, 0, 2);
        Check.dueThrow("of no use", STATE, () -> x.deliver(2));
        Check.dueCounts("of all flows", x, 7, 1, 1, 1, 6, 65 + 3 * 17 + 6 * 2, 5, 0, 2, 1, 1);
        Check.dueThrow("count(-1)", ARGUMENT, () -> x.count(-1));
        Check.dueThrow("count(11)", ARGUMENT, () -> x.count(11));
    }
}
