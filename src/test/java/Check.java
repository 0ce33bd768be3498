/** What the tests share: counting wrong answers, and the sums as the document tells them. */
final class Check {
    interface Call {
        long answer();
    }

    private static int wrong;

    private Check() { }

    static void due(String what, long got, long want) {
        if (got != want) {
            wrong++;
            System.out.println(what + ": answered " + got + ", due is " + want);
        }
    }

    static void dueText(String what, String got, String want) {
        if (!got.equals(want)) {
            wrong++;
            System.out.println(what + ": answered " + got + ", due is " + want);
        }
    }

    static void dueThrow(String what, Class<? extends RuntimeException> want, Call call) {
        dueText(what, answer(call), "throws." + want.getSimpleName());
    }

    /** The answer of a call as a text, or what it throws. */
    static String answer(Call call) {
        try {
            return Long.toString(call.answer());
        } catch (RuntimeException e) {
            return "throws." + e.getClass().getSimpleName();
        }
    }

    static int sum(int bits, int... bytes) {
        int change = bits == 3 ? 6 : bits == 7 ? 121 : 224;
        int sum = (1 << bits) - 1;
        for (int one : bytes) {
            for (int bit = 0; bit < 8; bit++) {
                sum = (sum % 2) == (one >> bit) % 2 ? sum / 2 : (sum / 2) ^ change;
            }
        }
        return sum;
    }

    static int[] head(int address, int type, boolean mark, int number, int time, int id) {
        return new int[] {
            address / 256, address % 256, mark ? type + 128 : type, number / 256, number % 256,
            (time >> 24) & 255, (time >> 16) & 255, (time >> 8) & 255, time & 255, id / 256, id % 256};
    }

    static void duePacket(String what, HeaderSqueeze x, int k, int... want) {
        due(what + ", size", x.size(k), want.length);
        for (int i = 0; i < want.length && i < x.size(k); i++) {
            due(what + ", byte " + i, x.byteAt(k, i), want[i]);
        }
    }

    static void dueMade(String what, HeaderSqueeze x, int... want) {
        for (int i = 0; i < 11; i++) {
            due(what + ", byte " + i + " of the head made", x.made(i), want[i]);
        }
    }

    /** The five that can be asked of the sending side of a flow. */
    static void dueSender(String what, HeaderSqueeze x, int flow, int... want) {
        for (int which = 0; which < want.length; which++) {
            due(what + ", sender(" + flow + ", " + which + ")", x.sender(flow, which), want[which]);
        }
    }

    static void dueReceiver(String what, HeaderSqueeze x, int flow, int... want) {
        for (int which = 0; which < want.length; which++) {
            due(what + ", receiver(" + flow + ", " + which + ")", x.receiver(flow, which), want[which]);
        }
    }

    static void dueCounts(String what, HeaderSqueeze x, int... want) {
        for (int which = 0; which < want.length; which++) {
            due(what + ", count(" + which + ")", x.count(which), want[which]);
        }
    }

    static void end() {
        System.out.println(wrong == 0 ? "all answers are as due" : wrong + " answers are not as due");
        if (wrong != 0) {
            System.exit(1);
        }
    }
}
