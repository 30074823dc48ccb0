import java.lang.management.ManagementFactory;

/** All calls of one run live in one room: 512 of the dearest make little that is new. */
public final class RoomTest {
    private static final int CALLS = 512;
    /** Far below the room of 7.3 million elements, of four bytes each. */
    private static final long MOST_BYTES = 4_000_000;
    private static final Due due = new Due();

    private static long made() {
        com.sun.management.ThreadMXBean threads =
                (com.sun.management.ThreadMXBean) ManagementFactory.getThreadMXBean();
        return threads.getThreadAllocatedBytes(Thread.currentThread().getId());
    }

    private static MachinesDream full() {
        MachinesDream x = new MachinesDream();
        Due.text(x, "loose if sum>5 and not who=3 then digits sum else -1 end;believes long+same;wears sums(who+1)/999;"
                + "machine 1 wear 2;machine 1 wear 2;machine 1 wear 2;machine 1 wear 2;machine 1 wear 2;"
                + "night 60;night 60;night 60;night 60;");
        x.by(0);
        x.played(0);
        Due.strips(x, "121212121212", "212121212121");
        for (int i = 0; i < 8; i++) {
            x.day(1212 + i);
            x.looser(i % 5, i);
            x.needs(i, 10 + i);
        }
        return x;
    }

    private static void call(MachinesDream x, int which) {
        switch (which) {
            case 0: x.night(1); break;
            case 1: x.foretold(60, 1, 0); break;
            case 2: x.played(0); break;
            case 3: x.decades(77, 40); break;
            case 4: x.undo(); x.oil(0, 1); break;
            case 5: x.image(); break;
            case 6: x.back(); break;
            case 7: x.add(0); x.fits(); x.likeliest(5); break;
            case 8: x.common(0); x.apart(); x.duet(1212, 1212); break;
            case 9: x.paired(1); x.stock(7, 1, 2); x.whose(); x.forgiven(9999); break;
            case 10: x.grows(1234, 12); x.odds(1212, 5, false); x.stays(true); break;
            default: Due.text(x, "loose 1" + Due.times("+1", 146) + ";"); x.back(); break;
        }
    }

    public static void main(String[] args) {
        due.promise("the room");
        made();
        long before = made();
        MachinesDream empty = new MachinesDream();
        long object = made() - before;
        due.is("about(0)", empty.about(0), 0);
        due.yes("a new object makes little: " + object, object < 500_000);
        for (int which = 0; which <= 10; which++) {
            MachinesDream x = full();
            x.image();
            before = made();
            for (int i = 0; i < CALLS; i++) {
                call(x, which);
            }
            long bytes = made() - before;
            due.yes("call " + which + " makes nothing: " + bytes, bytes < 20_000);
        }
        MachinesDream x = new MachinesDream();
        before = made();
        for (int i = 0; i < CALLS / 18; i++) {
            call(x, 11);
        }
        due.yes("texts make little", made() - before < MOST_BYTES);
        due.finish("RoomTest");
    }
}
