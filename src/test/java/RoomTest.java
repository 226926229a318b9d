import com.sun.management.ThreadMXBean;
import java.lang.management.ManagementFactory;
import java.util.function.IntConsumer;

/** What 512 calls of the dearest kind make is small: all calls of a run live in one room. */
public final class RoomTest {
    // 7.3 million fields and elements: of four bytes each that is some 29 million bytes.
    private static final long MOST_BYTES = 4000000;
    private static final int CALLS = 512;
    private static final ThreadMXBean ROOM = (ThreadMXBean) ManagementFactory.getThreadMXBean();
    private static int wrong = 0;

    public static void main(String[] args) {
        SecondLeft x = town();
        // Far more objects than a run has; each takes some 30000 bytes.
        takes("new", i -> new SecondLeft(), 4 * MOST_BYTES);
        takes("all questions", i -> {
            x.leads(i % 8, i % 8);
            x.likely(i % 8, i % 16);
            x.byAll(15, i % 16, true);
            x.clash(-1);
            x.wrong(255, true);
            x.far(0, 15);
            x.see(1, -1);
            x.orAsk(1);
            x.safeSoFar(i % 8, 1, true);
            x.howFar(i % 8, 50);
            x.lost(i % 8, 3);
            x.listen(6, 3, 9, 1, true);
            x.tell(i % 16, i % 4, i % 8, -1);
            x.where(i % 8, true);
            x.map(0, 3, 21);
            x.signs();
            x.whose(0, 1, 2, true);
            x.heard(i % 16);
        }, MOST_BYTES);
        takes("all steps", i -> {
            x.start(i % 16, i % 4);
            x.walk(1);
            x.turn(1);
            x.ask(0);
            x.follow(i % 8);
            x.played(0);
            x.day(i, 30);
            x.undo();
            x.image();
            x.back();
        }, MOST_BYTES);
        SecondLeft y = new SecondLeft();
        takes("texts", i -> {
            for (int k = 0; k < 15; k++) {
                // "pace 1+1+1+1+1+1+1+1", then "+1" again and again
                y.feed(k == 0 ? 0x70616365 : 0x2b312b31, k == 0 ? 0x20312b31 : 0x2b312b31, 0x2b312b31, 0x2b312b31,
                        k == 14 ? 0x2b31203b : 0x2b312b31);
            }
            y.text();
            y.end(0);
            y.feed(0x676f616c, 0x20303b20, 0x20202020, 0x20202020, 0x20202020);
            y.text();
            y.back();
        }, MOST_BYTES);
        System.out.println(wrong == 0 ? "there is room" : wrong + " take too much room");
        if (wrong != 0) {
            System.exit(1);
        }
    }

    private static void takes(String name, IntConsumer call, long most) {
        call.accept(0);
        long before = ROOM.getThreadAllocatedBytes(Thread.currentThread().getId());
        for (int i = 0; i < CALLS; i++) {
            call.accept(i);
        }
        long bytes = ROOM.getThreadAllocatedBytes(Thread.currentThread().getId()) - before;
        System.out.println(name + ": " + bytes + " bytes in " + CALLS + " rounds");
        if (bytes > most) {
            wrong++;
            System.out.println("that is more than " + most);
        }
    }

    private static SecondLeft town() {
        SecondLeft x = new SecondLeft();
        for (int i = 0; i < 16; i++) {
            x.corner(i % 6);
        }
        for (int i = 0; i < 16; i++) {
            x.street(i, 1, i / 4 * 4 + (i + 1) % 4, i % 3 == 0);
            x.street(i, 2, (i + 4) % 16, i % 5 == 0);
        }
        x.goal(11);
        for (int i = 0; i < 6; i++) {
            x.teller(2 * i, 3, 4, 5);
        }
        for (int i = 0; i < 8; i++) {
            x.telling(i % 6, i % 4, 101201302, 101);
        }
        x.text();
        x.by(0);
        return x;
    }
}
