import java.lang.management.ManagementFactory;
import java.util.function.IntConsumer;

/** What 512 calls make is kept far below the room of a run, and numbers far off never make a call throw. */
public final class RoomTest {
    private static final long MOST = 1 << 20;
    private static int wrong = 0;

    private static long made() {
        return ((com.sun.management.ThreadMXBean) ManagementFactory.getThreadMXBean()).getCurrentThreadAllocatedBytes();
    }

    private static void measure(String what, IntConsumer calls) {
        calls.accept(0);
        long was = made();
        calls.accept(1);
        long bytes = made() - was;
        System.out.println(what + ": " + bytes + " bytes");
        if (bytes > MOST) {
            wrong++;
            System.out.println(what + " makes too much");
        }
    }

    private static void laws() {
        RookHouse x = new RookHouse();
        x.image(0);
        // "bars" by twenty bytes, six of them and back to none, as often as 512 calls allow
        for (int i = 0; i < 24; i++) {
            for (int j = 0; j < 6; j++) {
                x.feed(0x62617273, 0x3b626172, 0x733b6261, 0x72733b62, 0x61727320);
                x.law();
                x.force(j);
            }
            x.back(0);
        }
    }

    private static void questions() {
        RookHouse x = new RookHouse();
        for (int m = 0; m < 7; m++) {
            x.member(m + 1, m % 4);
        }
        for (int i = 0; i < 24; i++) {
            x.sway(i % 7, i % 5, 1 + i % 9);
            x.best();
            x.rings();
            x.agenda(i % 5, 1);
            x.power(i % 7, 0);
            x.pivot(i % 7, 0);
            x.enough(i % 5, 0);
            x.out(i % 5, 0);
            x.first();
            x.falsely(i % 7, 0);
            x.canBe();
            x.ask(0);
            x.few(20, 99);
            x.compare(-1);
            x.sessions(i, 60);
            x.image(0);
            x.back(0);
            x.feed(0x70617373, 0x3b706173, 0x733b7061, 0x73733b70, 0x61737320);
            x.orders();
            x.undo();
        }
    }

    private static final int[] FAR = {Integer.MIN_VALUE, Integer.MIN_VALUE + 1, -100, -7, -6, -5, -4, -3, -2, -1, 0, 1, 2, 3, 4,
        5, 6, 7, 8, 9, 10, 11, 20, 21, 60, 61, 99, 100, 400, 401, 999, 1000000, 1000001, Integer.MAX_VALUE - 1, Integer.MAX_VALUE};

    private static void far(RookHouse x) {
        for (int a : FAR) {
            for (int b : FAR) {
                x.of(a, b);
                x.asks(a, b, 0);
                x.asks(0, a, b);
                x.bill(a, b);
                x.votes(a, b);
                x.agenda(a, b);
                x.power(a, b);
                x.pivot(a, b);
                x.enough(a, b);
                x.out(a, b);
                x.falsely(a, b);
                x.few(a, b);
                x.drawn(a, b);
                x.sway(a, b, a);
                x.sway(0, a, b);
                x.sessions(a, b);
                x.terms(a, b);
                x.seen(a, b);
                x.feed(a, b, a, b, a);
                x.end(a);
                x.member(a, b);
            }
            x.ask(a);
            x.compare(a);
            x.count(a);
            x.force(a);
            x.put(a);
            x.go(a);
            x.image(a);
            x.back(a);
            x.law();
            x.orders();
            x.row();
            x.undo();
            x.pass();
        }
    }

    public static void main(String[] args) {
        measure("laws", i -> laws());
        measure("questions", i -> questions());
        RookHouse x = new RookHouse();
        far(x);
        far(x);
        System.out.println(wrong == 0 ? "there is room" : wrong + " runs make too much");
        if (wrong != 0) {
            System.exit(1);
        }
    }
}
