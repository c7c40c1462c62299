import java.lang.management.ManagementFactory;

/** All calls of one run share one room, so a call makes nothing: all that it needs was made with the object. */
public final class RoomTest {
    private static final int CALLS = 512;
    // The machine itself may make a little at the side.
    private static final long AT_THE_SIDE = 20000, AN_OBJECT = 4000;

    public static void main(String[] args) {
        com.sun.management.ThreadMXBean threads = (com.sun.management.ThreadMXBean) ManagementFactory.getThreadMXBean();
        long me = Thread.currentThread().getId();
        calls(new SieveLoft());
        long before = threads.getThreadAllocatedBytes(me);
        SieveLoft x = new SieveLoft();
        long made = threads.getThreadAllocatedBytes(me) - before;
        before = threads.getThreadAllocatedBytes(me);
        calls(x);
        long used = threads.getThreadAllocatedBytes(me) - before;
        System.out.println("an object takes " + made + " bytes, " + CALLS + " calls take " + used);
        System.exit(made <= AN_OBJECT + AT_THE_SIDE && used <= AT_THE_SIDE ? 0 : 1);
    }

    private static void calls(SieveLoft x) {
        for (int i = 0; i < 8; i++) {
            x.sieve(i % 4, 60 - 7 * i, 500 - 10 * i, i % 4);
        }
        for (int i = 0; i < 6; i++) {
            x.grain(10 * i + 5, 100 - i, i);
        }
        x.type(0x303132333435L, 6);
        x.row();
        x.sheet(0, 2, 24);
        x.sheet(1, 2, 24);
        for (int i = 18; i < CALLS; i++) {
            dear(x, i % 16, i);
        }
    }

    private static void dear(SieveLoft x, int which, int i) {
        switch (which) {
            case 0: x.best(4, -2); break;
            case 1: x.parted(63, -1); break;
            case 2: x.season(20, 3); break;
            case 3: x.meshes(0, 0, 2, 0); break;
            case 4: x.torn(0, 2, 0); break;
            case 5: x.lasts(); break;
            case 6: x.film(0, 2, i % 19); break;
            case 7: x.copy(0, 0, 1, i % 5, 19); break;
            case 8: x.image(); break;
            case 9: x.restore(); break;
            case 10: x.fits(i % 7); break;
            case 11: x.type(0x7035302C70363031L, 8); break;
            case 12: x.row(); break;
            case 13: x.sheet(2, i % 3, i % 25); break;
            case 14: x.shake(); break;
            default: x.found(i % 7, 2); break;
        }
    }
}
