import java.lang.management.ManagementFactory;

/** The dearest runs of 512 calls stay far below the room that all calls of one run have. */
public final class RoomTest {
    private static final long MOST_BYTES = 4_000_000;

    public static void main(String[] args) {
        for (int i = 0; i < 3; i++) {
            repeating();
            forging();
            texts();
        }
        within("repeating", RoomTest::repeating);
        within("forging", RoomTest::forging);
        within("texts", RoomTest::texts);
        within("twenty new houses", () -> {
            for (int i = 0; i < 20; i++) {
                Check.house();
            }
        });
        Check.finish("RoomTest");
    }

    private static void within(String what, Runnable run) {
        com.sun.management.ThreadMXBean threads =
                (com.sun.management.ThreadMXBean) ManagementFactory.getThreadMXBean();
        long id = Thread.currentThread().getId();
        long before = threads.getThreadAllocatedBytes(id);
        run.run();
        long bytes = threads.getThreadAllocatedBytes(id) - before;
        System.out.println(what + ": " + bytes + " bytes");
        Check.due(what + " takes " + bytes + " bytes: few enough", bytes < MOST_BYTES, true);
    }

    /** All that a terminal can keep is repeated to the last tick, each message doubled. */
    private static void repeating() {
        Chipcardhouse house = new Chipcardhouse();
        house.account(9000000);
        house.shop(0, 0);
        house.card(0, 7, 9, 100000);
        for (int i = 0; i < 200; i++) {
            house.pay(0, 0, 900, 7);
        }
        for (int i = 0; i < 100; i++) {
            house.backMoney(0, i, 5);
        }
        for (int i = 0; i < 80; i++) {
            house.faults(0, i % 2, 1, 100);
        }
        house.faults(0, 1, 0, 100);
        house.passes(3);
        house.sends(0);
        for (int i = 0; i < 14; i++) {
            house.passes(200);
            house.setOpen(i % 3 == 1);
        }
        Check.due("errors", house.errors(), 0);
    }

    private static void forging() {
        Chipcardhouse house = Check.house();
        house.pay(0, 0, 5, 7);
        for (int i = 0; i < 5; i++) {
            house.faults(0, 0, 1, 100);
        }
        for (int i = 0; i < 500; i++) {
            house.forge(0, 0, 2 * i);
        }
        house.passes(10);
        Check.due("one is posted", house.count(6), 1);
    }

    private static void texts() {
        Chipcardhouse house = Check.house();
        for (int i = 0; i < 7; i++) {
            Check.type(house, "close;tell 0 1;pay 0 0 900 7;send 0;wait 90;open;".repeat(10));
            house.play();
        }
    }
}
