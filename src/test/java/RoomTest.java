import java.lang.management.ManagementFactory;

/** All calls of a run live in one room: a call makes no object, a new WrongWay few. */
public final class RoomTest {
    private static final Check C = new Check();
    private static long sum;

    public static void main(String[] args) {
        com.sun.management.ThreadMXBean threads =
                (com.sun.management.ThreadMXBean) ManagementFactory.getThreadMXBean();
        long me = Thread.currentThread().getId();
        WrongWay[] objects = new WrongWay[100];
        for (int i = 0; i < objects.length; i++) {
            objects[i] = new WrongWay();
        }
        calls(new WrongWay());
        long before = threads.getThreadAllocatedBytes(me);
        long nothing = threads.getThreadAllocatedBytes(me) - before;
        before = threads.getThreadAllocatedBytes(me);
        for (WrongWay x : objects) {
            for (int i = 0; i < 8; i++) {
                calls(x);
            }
        }
        long made = threads.getThreadAllocatedBytes(me) - before - nothing;
        C.about("the room");
        C.holds("40,000 calls made " + made + " bytes", made < 40_000);
        before = threads.getThreadAllocatedBytes(me);
        for (int i = 0; i < 1000; i++) {
            sum += new WrongWay().count(1);
        }
        made = threads.getThreadAllocatedBytes(me) - before - nothing;
        C.holds("1,000 objects made " + made + " bytes", made < 5_000_000);
        C.due("all are of 11 floors", sum % 11, 0);
        C.end();
    }

    /** Some sixty calls, the dearest among them. */
    private static void calls(WrongWay x) {
        x.house(11);
        for (int kind = 2; kind <= 5; kind++) {
            x.lift(kind, kind);
        }
        for (int i = 0; i < 6; i++) {
            x.note(0, i, i, 0);
            x.walk(i, 11 - i, i, 1);
            x.ride(i, 11 - i, i, 1);
            x.often(i, 0);
            x.own(i, 1);
        }
        x.clear();
        x.type('h');
        x.read();
        x.days(4, 1, 60);
        x.porters(4, 0, 9, 3);
        x.lines();
        x.even();
        x.is(0, 1);
        x.look(0, 3);
        x.image(0);
        x.passes(3);
        x.undo();
        x.from(0);
        x.of(0, 4);
        x.where(0, 5);
        x.digest();
        x.status(5);
    }
}
