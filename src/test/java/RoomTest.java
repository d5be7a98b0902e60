import java.lang.management.ManagementFactory;

/** All calls of a run live in one room: an object is small, and none of its calls makes another one. */
public final class RoomTest {
    private static final com.sun.management.ThreadMXBean THREADS =
        (com.sun.management.ThreadMXBean) ManagementFactory.getThreadMXBean();
    private static final String[] TEXTS = {
        "thorn 0 1 abcdefgh;holly 0 2 abcdefgh;bramble 0 3 abcdefgh;hazel 0 4 aeiouaei;thorn 0 5 eoeoeoeo",
        "hazel 0 6 abcdefgh;hazel 0 7 abcdefgh;gate 0 1 1;gate 1 2 1;gate 2 3 1;gate 3 4 1;gate 4 5 1;gate 5 6 1;gate 0 2 1",
        "gate 0 3 1;gate 0 4 1;dark 99;word abcdefgh;word abcdefgh;word aeiouaei;word eoeoeoeo;word eoeoeoee"};

    private RoomTest() {
    }

    public static void main(String[] args) {
        callAll(new HedgeReader());
        long ahead = bytesMade();
        HedgeReader x = new HedgeReader();
        long made = bytesMade() - ahead;
        Checks.isTrue("an object of " + made + " bytes is small", made < 40000);
        ahead = bytesMade();
        for (int i = 0; i < 5; i++) {
            callAll(x);
        }
        made = bytesMade() - ahead;
        // Far less than the calls are many: the reading of the bytes makes some itself.
        Checks.isTrue("calls made " + made + " bytes", made < 1000);
        Checks.end("RoomTest");
    }

    private static long bytesMade() {
        return THREADS.getThreadAllocatedBytes(Thread.currentThread().getId());
    }

    private static void callAll(HedgeReader x) {
        Checks.write(x, "parish");
        x.parish();
        for (int t = 0; t < TEXTS.length; t++) {
            Checks.write(x, TEXTS[t]);
            x.fault();
            x.parish();
        }
        for (int f = 0; f < 7; f++) {
            tellOf(x, f);
        }
        act(x);
        foretell(x);
        keepShelves(x);
    }

    private static void tellOf(HedgeReader x, int f) {
        x.field(f, 6);
        x.letter(f, 0);
        x.gate(f, 2);
        x.word(f, 0);
        x.as(f, 1);
        x.seen(f, 1, 1);
        x.kinds(f);
        x.odds(f, 3, 5, 0);
    }

    private static void act(HedgeReader x) {
        x.keep(0);
        x.back(0);
        x.day();
        x.through(0);
        x.read();
        x.rain(1);
        x.birds();
        x.plough(2);
        x.undo();
    }

    private static void foretell(HedgeReader x) {
        x.far(0, 6);
        x.whole(0);
        x.before(0);
        x.feast(-1);
        x.least(0);
        x.could(3, 0);
        x.which(3, 0);
    }

    private static void keepShelves(HedgeReader x) {
        x.forget();
        x.shelf(0, 0, 24);
        x.lay(0, 0, 3, 7);
        x.look(0, 3);
        x.copy(0, 0, 0, 1, 9);
        x.list(0, 0, 3);
        x.drop(0);
        x.write(' ');
        x.erase();
        x.count(9);
    }
}
