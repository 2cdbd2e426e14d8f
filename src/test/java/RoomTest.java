import java.lang.management.ManagementFactory;

/** All calls of a run live in one room: none but station may make an object. */
public final class RoomTest {
    private static final int ROOMS = 10;
    /** Filling takes some 400 calls, and an object has 512; a turn is up to three calls. */
    private static final int TURNS = 30;
    /** The machine itself now and then books a little for a thread. */
    private static final long SPARE = 4096;
    private static final com.sun.management.ThreadMXBean THREADS =
        (com.sun.management.ThreadMXBean) ManagementFactory.getThreadMXBean();
    private static long kept = 0;

    public static void main(String[] args) {
        int wrong = 0;
        for (int which = 0; which < 26; which++) {
            GlassRoom[] first = allFilled();
            GlassRoom[] second = allFilled();
            callOften(first, which);
            long before = THREADS.getCurrentThreadAllocatedBytes();
            callOften(second, which);
            long made = THREADS.getCurrentThreadAllocatedBytes() - before;
            if (made > SPARE) {
                wrong++;
                System.out.println("call " + which + " made " + made + " bytes in " + ROOMS * TURNS + " turns");
            }
        }
        long before = THREADS.getCurrentThreadAllocatedBytes();
        GlassRoom[] rooms = new GlassRoom[100];
        for (int k = 0; k < rooms.length; k++) {
            rooms[k] = filled();
        }
        long each = (THREADS.getCurrentThreadAllocatedBytes() - before) / rooms.length;
        if (each > 20000) {
            wrong++;
            System.out.println("a full room takes " + each + " bytes");
        }
        System.out.println(wrong == 0 ? "no call makes objects; a full room takes " + each + " bytes"
            : wrong + " calls make objects");
        if (wrong != 0) {
            System.exit(1);
        }
    }

    private static GlassRoom[] allFilled() {
        GlassRoom[] rooms = new GlassRoom[ROOMS];
        for (int k = 0; k < ROOMS; k++) {
            rooms[k] = filled();
        }
        return rooms;
    }

    private static GlassRoom filled() {
        GlassRoom room = new GlassRoom();
        for (int s = 0; s < 8; s++) {
            room.station(s, 7 * s % 8, 500 * s, s % 6);
            for (int hour = 0; hour < 48; hour++) {
                room.tell(s, hour, 7600 - 400 * s + 13 * (hour * s % 7), hour - 10);
            }
        }
        room.benches(6);
        for (int k = 0; k < 12; k++) {
            room.difference(k % 6, (k + 1 + k / 6) % 6, 100 * k, 1 + k % 9);
        }
        return room;
    }

    private static void callOften(GlassRoom[] rooms, int which) {
        for (int k = 0; k < ROOMS * TURNS; k++) {
            GlassRoom room = rooms[k / TURNS];
            kept += which < 13 ? callOne(room, which, k) : callOther(room, which, k);
        }
    }

    private static long callOne(GlassRoom x, int which, int k) {
        switch (which) {
            case 0: return x.set(k % 6, 0, k % 50);
            case 1: return x.glass(k % 6, k % 6);
            case 2: return x.seal(k % 6, 7400, 900, 7300, 500);
            case 3: return x.air(k % 6, k % 2);
            case 4: return x.right(k % 6, 7000 + k, 10);
            case 5: return x.station(9, 0, 0, 0);
            case 6: return x.tell(k % 8, k % 48, 7000 + k, 10);
            case 7: return x.gap(k % 8, k % 48);
            case 8: return x.reading(k % 8, k % 48, 4);
            case 9: return x.rise(8000 + k, 7000, 10);
            case 10: return x.between(k % 8, (k + 1) % 8, k % 48);
            case 11: return x.benches(2 + k % 5);
            default: return x.difference(k % 2, 1 - k % 2, k, 1) + x.drop();
        }
    }

    private static long callOther(GlassRoom x, int which, int k) {
        switch (which) {
            case 13: return x.drop() + x.difference(k % 6, (k + 1) % 6, k, 1);
            case 14: return x.height(k % 6, k % 2);
            case 15: return x.off(k % 12, k % 2);
            case 16: return x.drop() + x.difference(k % 6, (k + 1) % 6, k, 1) + x.worst();
            case 17: return x.closing(k % 6, (k + 1) % 6, (k + 2) % 6);
            case 18: return x.field(k % 48, k % 8, k % 7);
            case 19: return x.low(k % 48, k % 3 - 1);
            case 20: return x.follow(k % 4, 0, 43);
            case 21: return x.lines(k % 48, 7300 + k, k % 4);
            case 22: return x.line(k % 48, 7300 + k, 0, k % 4);
            case 23: return x.drift(k % 8, k % 3);
            case 24: return x.mend(k % 8);
            default: return x.told(k % 5);
        }
    }
}
