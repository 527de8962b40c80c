import java.lang.management.ManagementFactory;

/** All calls live in one room: an object is small, and only a text that is read makes anything more. */
public final class RoomTest {
    private static final Check CHECK = new Check("RoomTest");
    private static final com.sun.management.ThreadMXBean ROOM =
        (com.sun.management.ThreadMXBean) ManagementFactory.getThreadMXBean();

    public static void main(String[] args) {
        callsMakeNothing();
        CausewayKept x = full();
        made(x);
        long before = bytes();
        CausewayKept[] many = new CausewayKept[100];
        for (int i = 0; i < many.length; i++) {
            many[i] = new CausewayKept();
        }
        due("bytes of an object", (bytes() - before) / many.length, 8000);
        before = bytes();
        for (int i = 0; i < 5; i++) {
            Check.read(many[i], "paces 1 + 2 * 3; treads doubt; doubts met;");
        }
        due("bytes of a text", (bytes() - before) / 5, 1000);
        CHECK.end();
    }

    private static long bytes() {
        return ROOM.getCurrentThreadAllocatedBytes();
    }

    private static void due(String what, long got, long most) {
        CHECK.due(what + ": " + got + ", at most " + most, got <= most ? 1 : 0, 1);
    }

    private static CausewayKept full() {
        CausewayKept x = Check.ruled("paces 1 + met; treads 7 - met * 2; doubts 1 + (sea < 50) * number;");
        for (int i = 0; i < 5; i++) {
            x.person(i, 2 * i, i % 2 == 0 ? 1 : -1);
        }
        return x;
    }

    private static void callsMakeNothing() {
        CausewayKept x = full();
        made(x);
        made(x);
        long before = bytes();
        for (int time = 0; time < 10; time++) {
            made(x);
        }
        due("bytes of ten times all calls", bytes() - before, 2000);
    }

    private static long made(CausewayKept x) {
        long sum = x.set(1, 0, 20) + x.told(0, 9) + x.told(1, 12) + x.feed(65) + x.text() + x.force(1);
        sum += x.set(6, 0, 0) + x.starts(0) + x.image() + x.hour() + x.back() + x.run(0, 60, 3) + x.arrives(1) + x.way(0);
        sum += x.set(6, 0, 0) + x.shifts(12, 0) + x.stands(40) + x.leave(40, 0) + x.mean(0);
        sum += x.film(0, 0, 20) + x.sheet(1, 0, 40) + x.cell(1, 0, 3) + x.copy(1, 0, 0, 0, 1);
        for (int what = 0; what < 8; what++) {
            sum += x.tells(0, 1, what);
        }
        sum += x.places(0, 1) + x.drawn(5, 40) + x.chance(5, 20, 1, 0) + x.count(0) + x.person(0, 0, 1);
        sum += x.family(1, 0, 0, 5) + x.taken(0, 0) + x.sheet(1, -1, 0);
        return sum;
    }
}
