/** Empty and full: what there is at first, and what happens when something is reached. */
public final class EmptyFullTest {
    public static void main(String[] args) {
        promise1EmptyAtFirst();
        promise11ZeroIfNoHeadWasMade();
        promise12ZeroWithoutAContext();
        promise13ZeroIfNoHeadWasMade();
        promise4FewerNumbersAtFirst();
        promise4TheLastFourNumbers();
        promise4NumbersOfEveryPacketCount();
        promise4LostAtOnceOnlyIfThereAre8();
        promise4LostAtOnceIs8MoreForEachKind();
        promise4LostAtOnceWasSent();
        promise4AgeOf20();
        promise4AgeOf20InEachState();
        promise4ThreePacketsInState0();
        promise4ThreePacketsInState1();
        promise4NotAlongInState0();
        promise4NoThreeInState2();
        promise10ThreeFailuresOneAfterTheOther();
        promise10WhatBreaksARowOfFailures();
        promise10FailuresAtEachLevel();
        promise10BothNumbersOnlyFromLevel0();
        Check.end();
    }

    /** Sent with head 0, 0, no mark, stride, time and offset 0, and lost. */
    private static void sendAndLose(HeaderSqueeze x, int flow, int... numbers) {
        for (int number : numbers) {
            x.send(flow, number, 0, number);
            x.lose(x.line() - 1);
        }
    }

    private static HeaderSqueeze sent(int flow, int... numbers) {
        HeaderSqueeze x = new HeaderSqueeze();
        sendAndLose(x, flow, numbers);
        return x;
    }

    private static void promise1EmptyAtFirst() {
        StringBuilder empty = new StringBuilder("line");
        for (int flow = 0; flow < 4; flow++) {
            empty.append(" flow ").append(flow).append(" sender 0 0 0 0 0 receiver 0 0 0 0");
        }
        empty.append(" made 0 0 0 0 0 0 0 0 0 0 0 count 0 0 0 0 0 0 0 0 0 0 0");
        Check.dueText("a new object", Check.all(new HeaderSqueeze()), empty.toString());
        HeaderSqueeze used = Check.stocked(1);
        used.deliver(0);
        Check.dueText("new beside a used one", Check.all(new HeaderSqueeze()), empty.toString());
        HeaderSqueeze x = new HeaderSqueeze();
        x.send(2, 0, 0, 0);
        Check.duePacket("address, type, stride 0 and no mark at first", x, 0,
                Check.packet(2, 4, 0, Check.head(0, 0, false, 0, 0, 0)));
        Check.due("no context like the first head", x.sender(2, 0), 0);
        Check.due("no context like the first head", x.count(4), 1);
    }

    private static void promise11ZeroIfNoHeadWasMade() {
        HeaderSqueeze x = new HeaderSqueeze();
        x.head(65535, 127, true);
        Check.dueMade("none", x, new int[11]);
        x.send(0, 65535, -1, 65535);
        Check.dueMade("sent", x, new int[11]);
        x.lose(0);
        Check.dueMade("lost", x, new int[11]);
        int[] packet = Check.packet(0, 4, 0, Check.head(65535, 127, true, 65535, -1, 65535));
        x.send(0, 65535, -1, 65535);
        packet[15] ^= 1;
        Check.dueText("failed", Check.comes(x, packet), "throws.ArithmeticException");
        Check.dueMade("failed", x, new int[11]);
        x.send(0, 65535, -1, 65535);
        packet[6] = 1;
        Check.dueText("broken", Check.comes(x, packet), "throws.IllegalArgumentException");
        Check.dueMade("broken", x, new int[11]);
        x.send(0, 65535, -1, 65535);
        Check.dueText("of no use", Check.answer(() -> x.deliver(0)), "throws.IllegalStateException");
        Check.dueMade("of no use", x, new int[11]);
        x.stride(0, 1);
        x.send(0, 65535, -1, 65535);
        Check.due("one made", x.deliver(0), 0);
        Check.dueMade("one made", x, Check.head(65535, 127, true, 65535, -1, 65535));
    }

    private static void promise12ZeroWithoutAContext() {
        HeaderSqueeze x = new HeaderSqueeze();
        x.stride(1, 7);
        x.head(1, 1, true);
        Check.answer(() -> x.send(1, 65536, 5, 5));
        Check.answer(() -> x.send(1, 5, 5, -1));
        x.send(0, 1, 5, 9);
        Check.dueSender("no context", x, 1, 0, 0, 0, 0, 0);
        Check.dueSender("a context", x, 0, 0, 1, 0, 5, 8);
        x.deliver(0);
        Check.dueSender("still no context", x, 1, 0, 0, 0, 0, 0);
        x.send(1, 1, 5, 9);
        Check.dueSender("a context now", x, 1, 0, 1, 0, -2, 8);
    }

    private static void promise13ZeroIfNoHeadWasMade() {
        HeaderSqueeze x = Check.stocked(1);
        int[] wrong = Check.packet(1, 4, 0, Check.head(1, 1, false, 77, 78, 79));
        wrong[16] ^= 1;
        Check.comes(x, wrong);
        Check.dueReceiver("one failed", x, 1, 0, 0, 0, 1);
        Check.comes(x, Check.packet(1, 3, 0, Check.head(0, 0, false, 77, 78, 79)));
        Check.dueReceiver("one of no use", x, 1, 0, 0, 0, 1);
        wrong[1] = 252;
        Check.comes(x, wrong);
        Check.dueReceiver("one broken", x, 1, 0, 0, 0, 1);
        Check.comes(x, Check.packet(1, 4, 0, Check.head(1, 1, false, 77, 78, 79)));
        Check.dueReceiver("one made", x, 1, 2, 77, 77, 0);
    }

    private static void promise4FewerNumbersAtFirst() {
        HeaderSqueeze x = sent(2, 30000, 30000, 30000);
        Check.due("of three numbers none is 0", x.send(2, 30001, 0, 30001), 0);
        HeaderSqueeze y = sent(2, 9000, 30000, 30000);
        Check.due("the first of three", y.send(2, 30001, 0, 30001), 3);
        HeaderSqueeze z = sent(2, 30000, 30000, 9000);
        Check.due("the third of three", z.send(2, 30001, 0, 30001), 3);
    }

    private static void promise4TheLastFourNumbers() {
        for (int back = 1; back <= 8; back++) {
            HeaderSqueeze x = sent(0, 100, 100, 100);
            sendAndLose(x, 0, 9000);
            for (int i = 1; i < back; i++) {
                sendAndLose(x, 0, 100);
            }
            Check.due("one far off, " + back + " back", x.send(0, 101, 0, 101), back <= 4 ? 3 : 0);
        }
    }

    private static void promise4NumbersOfEveryPacketCount() {
        HeaderSqueeze x = new HeaderSqueeze();
        x.head(5, 5, false);
        sendAndLose(x, 1, 9000);
        x.head(0, 0, false);
        sendAndLose(x, 1, 100, 100, 100);
        Check.due("sent with another address", x.send(1, 101, 0, 101), 3);
        Check.due("no longer of the last four", x.send(1, 102, 0, 102), 0);
        HeaderSqueeze moving = sent(1, 100, 100, 100);
        int[] numbers = {100, 9000, 100, 100, 100, 100, 100};
        for (int n = 0; n < 7; n++) {
            Check.due("one far off while moving, " + n, moving.send(1, numbers[n], 5, numbers[n]), n < 6 ? 3 : 0);
        }
        HeaderSqueeze flows = sent(1, 100, 100, 100);
        sendAndLose(flows, 2, 9000);
        Check.due("sent in another flow", flows.send(1, 101, 0, 101), 0);
        HeaderSqueeze refused = sent(1, 100, 100, 100);
        Check.answer(() -> refused.send(1, 9000, 0, 65536));
        Check.due("refused", refused.send(1, 101, 0, 101), 0);
    }

    private static void promise4LostAtOnceOnlyIfThereAre8() {
        HeaderSqueeze x = new HeaderSqueeze();
        for (int n = 1; n <= 10; n++) {
            x.stride(0, n);
            Check.due("packet " + n, x.send(0, 0, 0, n), n <= 8 ? 4 : 12);
            Check.due("the line behind packet " + n, x.line(), Math.min(n, 8));
        }
        for (int k = 0; k < 8; k++) {
            Check.due("packet " + k + " is the one sent", x.byteAt(k, 14), k + 1);
        }
        x.lose(7);
        Check.due("room for one", x.send(0, 0, 0, 11), 4);
        Check.due("for no second one", x.send(0, 0, 0, 12), 12);
        Check.due("the one with room", x.byteAt(7, 14), 11);
        x.deliver(0);
        Check.due("room for one again", x.send(0, 0, 0, 13), 4);
        Check.due("for no second one again", x.send(0, 0, 0, 14), 12);
        int[] ids = {2, 3, 4, 5, 6, 7, 11, 13};
        for (int k = 0; k < 8; k++) {
            Check.due("packet " + k + " of the line that was full", x.byteAt(k, 14), ids[k]);
        }
        x.spoil(0, 0, 255);
        Check.answer(() -> x.deliver(0));
        Check.due("room where one was broken", x.send(0, 0, 0, 15), 4);
        Check.due("for no second one", x.send(0, 0, 0, 16), 12);
    }

    private static HeaderSqueeze withFullLine() {
        HeaderSqueeze x = new HeaderSqueeze();
        for (int n = 0; n < 8; n++) {
            x.send(3, 0, 0, 0);
        }
        return x;
    }

    private static void promise4LostAtOnceIs8MoreForEachKind() {
        HeaderSqueeze x = withFullLine();
        String line = lineOf(x);
        Check.dueCounts("a full line", x, 5, 0, 0, 0, 3, 3 * 17 + 5 * 2);
        for (int n = 1; n <= 3; n++) {
            Check.due("kind 4 lost at once", x.send(0, n, 0, n), 12);
        }
        Check.due("kind 0 lost at once", x.send(0, 4, 0, 4), 8);
        Check.due("kind 1 lost at once", x.send(0, 60, 0, 60), 9);
        Check.due("kind 2 lost at once", x.send(0, 900, 0, 900), 10);
        Check.due("kind 3 lost at once", x.send(0, 9000, 0, 9000), 11);
        Check.due("kind 3 of state 1 lost at once", x.send(0, 9001, 1, 9001), 11);
        Check.dueCounts("counted", x, 6, 1, 1, 2, 6, 61 + 48 + 1 + 2 + 3 + 22, 0, 0, 0, 0, 0);
        Check.dueText("the line stays as it is", lineOf(x), line);
    }

    private static String lineOf(HeaderSqueeze x) {
        String all = Check.all(x);
        return all.substring(0, all.indexOf(" flow"));
    }

    private static void promise4LostAtOnceWasSent() {
        HeaderSqueeze x = withFullLine();
        x.head(7, 7, false);
        x.stride(0, 9);
        x.send(0, 1, 20, 8);
        Check.dueSender("context and number sent, of one", x, 0, 0, 1, 0, 11, 7);
        x.send(0, 2, 29, 9);
        x.send(0, 3, 38, 10);
        Check.dueSender("the state, of three", x, 0, 2, 0, 0, 11, 7);
        x.send(0, 9000, 11 + 81000, 9007);
        Check.dueSender("the age, of four", x, 0, 2, 1, 1, 11, 7);
        x.lose(0);
        Check.due("the number 9000, with room", x.send(0, 4, 47, 11), 3);
        Check.dueSender("the number 9000, with room", x, 0, 2, 2, 2, 11, 7);
        for (int age = 3; age <= 20; age++) {
            x.send(0, 4, 47, 11);
            Check.due("age " + age, x.sender(0, 2), age);
        }
        Check.due("aged, all lost at once", x.send(0, 4, 47, 11), 12);
    }

    private static void promise4AgeOf20() {
        HeaderSqueeze x = sent(1, 5, 5, 5);
        for (int age = 1; age <= 20; age++) {
            Check.due("age " + (age - 1) + " before it", x.send(1, 5, 0, 5), 0);
            x.lose(0);
            Check.dueSender("age " + age, x, 1, 2, age, age, 0, 0);
        }
        Check.due("age 20 before it", x.send(1, 5, 0, 5), 4);
        Check.dueSender("age 20 before it", x, 1, 0, 1, 0, 0, 0);
        Check.due("second", x.send(1, 5, 0, 5), 4);
        Check.due("third", x.send(1, 5, 0, 5), 4);
        Check.dueSender("third", x, 1, 2, 0, 0, 0, 0);
        Check.due("small again", x.send(1, 5, 0, 5), 0);
    }

    private static void promise4AgeOf20InEachState() {
        for (int moved = 17; moved <= 20; moved++) {
            HeaderSqueeze x = sent(1, 5, 5, 5);
            for (int age = 1; age <= 20; age++) {
                Check.due("moved with age " + moved + ", at " + age,
                        x.send(1, 5, age < moved ? 0 : 1, 5), age < moved || age > moved + 2 ? 0 : 3);
                x.lose(0);
                Check.due("age", x.sender(1, 2), age);
            }
            Check.due("moved with age " + moved + ", at 20", x.send(1, 5, 1, 5), 4);
            Check.dueSender("moved with age " + moved, x, 1, 0, 1, 0, 1, 0);
        }
        HeaderSqueeze x = sent(1, 5, 5, 5);
        for (int age = 1; age <= 20; age++) {
            sendAndLose(x, 1, 5);
        }
        Check.due("moved with age 20 before it", x.send(1, 5, 1, 5), 4);
        Check.dueSender("moved with age 20 before it", x, 1, 0, 1, 0, 1, 0);
    }

    private static void promise4ThreePacketsInState0() {
        HeaderSqueeze x = new HeaderSqueeze();
        int[][] senders = {{0, 1, 0}, {0, 2, 0}, {2, 0, 0}, {2, 1, 1}};
        for (int n = 0; n < 4; n++) {
            Check.due("packet " + n, x.send(0, n, 0, n), n < 3 ? 4 : 0);
            Check.dueSender("packet " + n, x, 0, senders[n]);
        }
        HeaderSqueeze y = sent(0, 1, 2);
        y.head(1, 0, false);
        for (int n = 0; n < 4; n++) {
            Check.due("behind two with another address, " + n, y.send(0, n, 0, n), n < 3 ? 4 : 0);
            Check.dueSender("behind two with another address, " + n, y, 0, senders[n]);
        }
        HeaderSqueeze z = sent(0, 1, 2);
        z.stride(0, 1);
        for (int n = 0; n < 4; n++) {
            Check.due("behind two with another stride, " + n, z.send(0, n, n, n), n < 3 ? 4 : 0);
            Check.dueSender("behind two with another stride, " + n, z, 0, senders[n]);
        }
    }

    private static void promise4ThreePacketsInState1() {
        for (int before = 0; before <= 2; before++) {
            HeaderSqueeze x = sent(0, 1, 2, 3, 4);
            for (int n = 0; n < before; n++) {
                Check.due("in state 1 before", x.send(0, 5 + n, 1, 5 + n), 3);
            }
            int[][] senders = {{1, 1}, {1, 2}, {2, 0}, {2, 1}};
            for (int n = 0; n < 4; n++) {
                String what = n + " behind " + before;
                Check.due(what, x.send(0, 8 + n, 2, 8 + n), n < 3 ? 3 : 0);
                Check.dueSender(what, x, 0, senders[n]);
                Check.due(what, x.sender(0, 2), 2 + before + n);
            }
        }
    }

    /** "The state is 1, unless it is 0, and nothing was sent in it yet": so in state 0 too. */
    private static void promise4NotAlongInState0() {
        for (int before = 1; before <= 2; before++) {
            HeaderSqueeze x = sent(0, 1, 2, 3, 4);
            x.head(1, 0, false);
            for (int n = 0; n < before; n++) {
                x.send(0, 5, 0, 5);
            }
            int[][] senders = {{0, 1, 0}, {0, 2, 0}, {2, 0, 0}, {2, 1, 1}};
            for (int n = 0; n < 4; n++) {
                String what = n + " behind " + before;
                Check.due(what, x.send(0, 6, 0, 5), n < 3 ? 4 : 0);
                Check.dueSender(what, x, 0, senders[n]);
                Check.due(what, x.sender(0, 4), 65535);
            }
        }
    }

    private static void promise4NoThreeInState2() {
        HeaderSqueeze x = sent(3, 1, 1, 1);
        for (int n = 1; n <= 5; n++) {
            x.send(3, 9000 + n % 2 * 9000, 0, 9000 + n % 2 * 9000);
            Check.dueSender("kind 3 in state 2, " + n, x, 3, 2, n, n);
            Check.due("kind 3 in state 2, " + n, x.count(3), n);
        }
    }

    private static int[] wrong(int flow, int number) {
        int[] packet = Check.packet(flow, 4, 0, Check.head(6, 6, false, number, 0, 0));
        packet[packet.length - 1] ^= 16;
        return packet;
    }

    /** Of kind 4, so that a packet of 17 bytes is there for each. */
    private static void fail(String what, HeaderSqueeze x, int flow) {
        supply(x);
        Check.dueText(what, Check.comes(x, wrong(flow, 60000)), "throws.ArithmeticException");
    }

    private static void make(String what, HeaderSqueeze x, int flow, int number) {
        supply(x);
        int[] packet = Check.packet(flow, 4, 0, Check.head(6, 6, false, number, 0, 0));
        Check.dueText(what, Check.comes(x, packet), Integer.toString(flow));
    }

    private static void supply(HeaderSqueeze x) {
        x.stride(3, x.count(4) + 1);
        Check.due("a packet of kind 4", x.send(3, 0, 0, 0), 4);
    }

    private static void promise10ThreeFailuresOneAfterTheOther() {
        HeaderSqueeze x = new HeaderSqueeze();
        make("made", x, 1, 5);
        fail("first", x, 1);
        Check.dueReceiver("first", x, 1, 2, 5, 5, 1);
        fail("second", x, 1);
        Check.dueReceiver("second", x, 1, 2, 5, 5, 2);
        fail("third", x, 1);
        Check.dueReceiver("third", x, 1, 1, 5, 5, 0);
        Check.due("three failed", x.count(10), 3);
        fail("fourth", x, 1);
        fail("fifth", x, 1);
        Check.dueReceiver("fifth", x, 1, 1, 5, 5, 2);
        fail("sixth", x, 1);
        Check.dueReceiver("sixth", x, 1, 0, 5, 5, 0);
    }

    private static void promise10WhatBreaksARowOfFailures() {
        HeaderSqueeze x = new HeaderSqueeze();
        make("made", x, 1, 5);
        fail("first", x, 1);
        fail("second", x, 1);
        make("one made between", x, 1, 6);
        Check.dueReceiver("one made between", x, 1, 2, 6, 5, 0);
        fail("first behind it", x, 1);
        fail("second behind it", x, 1);
        fail("one of another flow", x, 2);
        make("one made of another flow", x, 2, 9);
        Check.dueReceiver("another flow", x, 1, 2, 6, 5, 2);
        supply(x);
        int[] broken = wrong(1, 60000);
        broken[7] = 127;
        Check.dueText("one broken", Check.comes(x, broken), "throws.IllegalArgumentException");
        Check.dueReceiver("one broken", x, 1, 2, 6, 5, 2);
        fail("third behind it", x, 1);
        Check.dueReceiver("third behind it", x, 1, 1, 6, 5, 0);
        fail("first at level 1", x, 1);
        fail("second at level 1", x, 1);
        Check.stock(x, 0);
        Check.dueText("one of no use", Check.comes(x, 225, 0), "throws.IllegalStateException");
        Check.dueReceiver("one of no use", x, 1, 1, 6, 5, 2);
        x.lose(0);
        fail("third at level 1", x, 1);
        Check.dueReceiver("third at level 1", x, 1, 0, 6, 5, 0);
    }

    private static void promise10FailuresAtEachLevel() {
        HeaderSqueeze x = Check.stocked(2);
        Check.comes(x, Check.packet(2, 4, 0, Check.head(0, 0, false, 40, 0, 40)));
        int[] head = Check.head(0, 0, false, 41, 0, 41);
        for (int kind = 0; kind <= 2; kind++) {
            int[] packet = Check.packet(2, kind, 0, head);
            packet[packet.length - 1] = otherSum(kind, packet);
            Check.dueText("kind " + kind, Check.comes(x, packet), "throws.ArithmeticException");
            Check.dueReceiver("kind " + kind, x, 2, kind < 2 ? 2 : 1, 40, 40, (kind + 1) % 3);
        }
        int[] moving = Check.packet(2, 3, 0, head);
        moving[11] ^= 1;
        Check.dueText("kind 3 at level 1", Check.comes(x, moving), "throws.ArithmeticException");
        Check.dueText("kind 3 at level 1", Check.comes(x, moving), "throws.ArithmeticException");
        Check.dueReceiver("kind 3 at level 1", x, 2, 1, 40, 40, 2);
        Check.dueText("kind 4 at level 1", Check.comes(x, wrong(2, 8)), "throws.ArithmeticException");
        Check.dueReceiver("kind 4 at level 1", x, 2, 0, 40, 40, 0);
        Check.dueText("kind 4 at level 0", Check.comes(x, wrong(2, 8)), "throws.ArithmeticException");
        Check.dueReceiver("kind 4 at level 0", x, 2, 0, 40, 40, 1);
    }

    /** The last byte with a sum that none of the numbers tried has. */
    private static int otherSum(int kind, int... packet) {
        int bits = new int[] {3, 7, 8}[kind];
        int step = new int[] {16, 64, 1024}[kind];
        int sum = 0;
        while (sum == Check.sum(bits, Check.head(0, 0, false, 41, 0, 41))
                || sum == Check.sum(bits, Check.head(0, 0, false, 41 + step, 0, 41 + step))) {
            sum++;
        }
        return packet[packet.length - 1] >> bits << bits | sum;
    }

    private static void promise10BothNumbersOnlyFromLevel0() {
        for (int failures = 0; failures <= 9; failures += 3) {
            HeaderSqueeze x = new HeaderSqueeze();
            make("made", x, 1, 5);
            make("made", x, 1, 6);
            for (int i = 0; i < failures; i++) {
                fail("failed", x, 1);
            }
            Check.dueReceiver("they stay when the level falls", x, 1, Math.max(0, 2 - failures / 3), 6, 5, 0);
            make("made again", x, 1, 9);
            Check.dueReceiver("made again behind " + failures, x, 1, 2, 9, failures < 6 ? 6 : 9, 0);
        }
    }
}
