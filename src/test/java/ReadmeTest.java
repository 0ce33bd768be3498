/** The example of README.md, line by line, with the answers that it tells. */
public final class ReadmeTest {
    public static void main(String[] args) {
        HeaderSqueeze x = new HeaderSqueeze();
        x.stride(0, 160);
        x.head(4660, 97, false);
        Check.due("the first head sent", x.send(0, 1, 1160, 6), 4);
        Check.due("the second head sent", x.send(0, 2, 1320, 7), 4);
        Check.due("the third head sent", x.send(0, 3, 1480, 8), 4);
        Check.due("the fourth head sent", x.send(0, 4, 1640, 9), 0);
        Check.due("line()", x.line(), 4);
        Check.due("size(0)", x.size(0), 16);
        Check.due("size(3)", x.size(3), 1);
        Check.due("byteAt(0, 0)", x.byteAt(0, 0), 253);
        x.lose(1);
        x.spoil(1, 15, 1);
        Check.due("the first head delivered", x.deliver(0), 0);
        Check.dueThrow("the spoilt one", ArithmeticException.class, () -> x.deliver(0));
        Check.due("the small one", x.deliver(0), 0);
        Check.due("made(2)", x.made(2), 97);
        Check.due("sender(0, 0)", x.sender(0, 0), 2);
        Check.due("receiver(0, 1)", x.receiver(0, 1), 4);
        Check.due("count(10)", x.count(10), 1);
        Check.end();
    }
}
