import com.sun.management.ThreadMXBean;
import java.lang.management.ManagementFactory;

/** The room that objects take: rows are made in the constructor, and calls make none. */
public final class RoomTest {
    private static final Check check = new Check();
    private static final ThreadMXBean threads = (ThreadMXBean) ManagementFactory.getThreadMXBean();

    public static void main(String[] args) {
        calls(new LetterDebts());
        long start = threads.getCurrentThreadAllocatedBytes();
        LetterDebts x = new LetterDebts();
        long made = threads.getCurrentThreadAllocatedBytes();
        calls(x);
        long end = threads.getCurrentThreadAllocatedBytes();
        check.holds("an object takes 64 KiB at most: " + (made - start), made - start < 65536);
        check.holds("calls make no objects: " + (end - made), end - made < 1024);
        check.end();
    }

    private static void calls(LetterDebts x) {
        long[] text = {7382085253695807586L, 7022067432989663334L, 8243105881925907553L};
        for (int i = 0; i < text.length; i++) {
            x.type(text[i], 8);
        }
        x.type(30229011480130619L, 7);
        x.rules();
        x.firm(0, 0, 9, 100);
        for (int f = 0; f < 10; f++) {
            x.pay(0, f, 1, 10);
        }
        for (int i = 0; i < 20; i++) {
            x.could(0, i);
            x.owed(0, i, i % 4);
            x.settles(0, i, 1);
            x.tells(0, i);
            x.span(0, i, 3, 0);
            x.debt(0, i % 3);
            x.letter(i);
            x.call(0, 60);
            x.hold(0, 99, 1, 2);
            x.right(0, i);
            x.weight(i % 8, 0, 1);
            x.keep(i % 2);
            x.back(i % 2);
            x.place(0, i % 2, i);
            x.day();
            x.set(i / 2);
        }
        x.slip(0, 0, 10);
    }
}
