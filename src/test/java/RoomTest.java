import java.lang.management.ManagementFactory;

/** All calls of a run live in one room: what 512 of each call make is counted, in bytes, for one object. */
public final class RoomTest {
    private static final int CALLS = 512;
    private static final long MOST = 300000;
    private static final int KINDS = 28;

    private static final Checks is = new Checks();
    private static long kept = 0;

    public static void main(String[] args) {
        com.sun.management.ThreadMXBean room = (com.sun.management.ThreadMXBean) ManagementFactory.getThreadMXBean();
        // Once without looking, so that what the machine makes for itself is not counted.
        for (int round = 0; round < 2; round++) {
            for (int kind = 0; kind < KINDS; kind++) {
                long before = room.getCurrentThreadAllocatedBytes();
                use(kind);
                long bytes = room.getCurrentThreadAllocatedBytes() - before;
                if (round == 1) {
                    is.holds("kind " + kind + " of call made " + bytes + " bytes", bytes <= MOST);
                }
            }
        }
        System.out.println("answers together: " + kept);
        is.end();
    }

    private static void use(int kind) {
        PetalWheels x = Checks.told("r120;r90;r72;r60;w99;w60;w30;w45;w24;w7;p999;p999;p999;p999;");
        for (int k = 0; k < 11; k++) {
            x.draws(k % 4, 2, k % 9 + 1, k, k % 4);
        }
        for (int n = 0; n < CALLS; n++) {
            kept += call(x, kind, n);
        }
    }

    private static long call(PetalWheels x, int kind, int n) {
        switch (kind) {
            case 0: return x.type(' ');
            case 1: return x.clear();
            case 2: return x.box();
            case 3: return x.ring(n % 4);
            case 4: return x.wheel(n % 4, n % 6, n % 4);
            case 5: return x.pen(n % 4, 1);
            case 6: return x.curve(n % 11, 6);
            case 7: return x.draws(3, 2, 1, n % 60, 3) + x.undo();
            case 8: return x.rubs(n % 11) + x.undo();
            case 9: return x.spins(n % 359 + 1);
            case 10: return x.fills(n % 4, 1);
            case 11: return x.undo();
            case 12: return x.now(2 + n % 2);
            case 13: return x.shown(n % 360, n % 9 + 1);
            case 14: return x.petals(n % 4, n % 120 + 1);
            case 15: return x.closes(n % 4, n % 9 + 1, n % 2);
            case 16: return x.best(n % 4, n % 2);
            case 17: return x.meet(n % 11, (n + 1) % 11);
            case 18: return x.odds(n % 4, n % 6, n % 360, n % 2);
            case 19: return x.sees(n % 120, 0);
            case 20: return x.forget();
            case 21: return x.guess(n % 4, n % 2);
            case 22: return x.look(n % 4);
            case 23: return x.mark(n % 6, n % 11);
            case 24: return x.keep(n % 2);
            case 25: return x.keep(n % 2) + x.back(n % 2);
            case 26: return x.count(n % 6);
            default: return x.trace();
        }
    }
}
