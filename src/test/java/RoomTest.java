import java.lang.management.ManagementFactory;

/** All calls of one run live in one room: what a call makes is counted here, and must stay small. */
public final class RoomTest {
    // far below the room's 7.3 million fields and elements, of at most 8 bytes each
    private static final long MOST_BYTES = 2_000_000;

    private static final com.sun.management.ThreadMXBean BEAN =
        (com.sun.management.ThreadMXBean) ManagementFactory.getThreadMXBean();

    private static void sign(AbsenceTree x, String text) {
        for (int i = 0; i < text.length(); i += 4) {
            int v = 0;
            for (int j = i; j < i + 4; j++) {
                v = v << 8 | (j < text.length() ? text.charAt(j) : 0);
            }
            x.sign(v);
        }
        x.end(text.length());
    }

    private static long live() {
        long before = BEAN.getCurrentThreadAllocatedBytes();
        AbsenceTree x = new AbsenceTree();
        sign(x, "8,1=1");
        x.map();
        x.sheet(10, 2, 30, 1, 1);
        for (int i = 0; i < 20; i++) {
            x.flips(i + 1);
            x.keep(i % 2);
            sign(x, "p001001p001002p001003p001004p001005p001006p001007p001008p001009p001010p001011");
            x.day();
            sign(x, "200=1,100=2,0=0");
            x.batch();
            x.all();
            x.hot();
            x.years(i, 60);
            x.proof(x.count(2), i);
            x.accepted();
            x.would(x.count(2), i, i);
            x.again(i % 2);
            x.joins(x.count(2), x.count(2) - 1, x.count(2) - 1);
            x.stretch(x.count(2), 1, 254);
            x.others(x.count(2), x.key(x.count(2), 3));
            sign(x, "1=2:255:1:2:3:4:5:6:7:8");
            x.told();
            sign(x, "1,2,3");
            x.together(x.count(2));
        }
        return BEAN.getCurrentThreadAllocatedBytes() - before;
    }

    public static void main(String[] args) {
        live();
        long bytes = live();
        if (bytes > MOST_BYTES) {
            System.out.println("RoomTest: a run made " + bytes + " bytes");
            System.exit(1);
        }
        System.out.println("RoomTest: a run made " + bytes + " bytes");
    }
}
