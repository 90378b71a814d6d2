import com.sun.management.ThreadMXBean;
import java.lang.management.ManagementFactory;

/** All calls of a run live in one room: an object is small, and calls make next to nothing. */
public final class RoomTest {

    private static final ThreadMXBean BEAN = (ThreadMXBean) ManagementFactory.getThreadMXBean();
    private static long sink = 0;

    public static void main(String[] args) {
        anObjectIsSmall();
        callsMakeNothing();
        textsAreSmall();
        Due.isTrue("all were called", sink != 0);
        Due.end("RoomTest");
    }

    private static long made() {
        return BEAN.getThreadAllocatedBytes(Thread.currentThread().getId());
    }

    private static void anObjectIsSmall() {
        sink += new BiteFirst().count(3);
        long ahead = made();
        for (int k = 0; k < 100; k++) {
            sink += new BiteFirst().count(3);
        }
        Due.isTrue("an object has some 3000 numbers at most", (made() - ahead) / 100 < 16000);
    }

    /** Five eaters of all shapes, six goods. */
    private static BiteFirst full() {
        BiteFirst x = new BiteFirst();
        int[] eaters = {0, 14, 22, 36, 59};
        for (int e : eaters) {
            x.eater(e, 45);
        }
        for (int g = 0; g < 6; g++) {
            x.good(9 - g, 10 * g);
        }
        Due.row(x, 0, 0, 0, 0, 6, 1, 1, 7, 2, 2, 8);
        return x;
    }

    private static void callsMakeNothing() {
        for (int round = 0; round < 2; round++) {
            BiteFirst x = full();
            long ahead = made();
            for (int k = 0; k < 12; k++) {
                sink += x.asks(0, 0, 0, 105) + x.put(0, 0, k) + x.part(0, 0) + x.told(0, 3) + x.lend(0, 1, 100);
                sink += x.shape(1, 1) + x.mark(1, 1, 6, 2) + x.best(0, 0) + x.orderly(1) + x.duel(0, 1, 2, 0);
                sink += x.fewest(1, 1) + x.soonest(1, 0) + x.hire(2, 0) + x.whose(0, 1) + x.kinds(0, 0, 1, 2);
                sink += x.judge(0) + x.ends(0, 0, 0) + x.laws(0) + x.film(1, 13) + x.drawn(k, 60, 0, 0);
                sink += x.odds(k, 6040, 0, 100, 0) + x.image() + x.back() + x.cell(0, 0, 0) + x.sheet(2, 1, 40);
                sink += x.copy(1, 0, 1, 1, 2) + x.eatersBy(1, 0, 0, 1) + x.taken(0, 0) + x.set(k) + x.count(2);
                sink += x.bite(0, 0, 6) + x.good(0, 0) + x.eater(0, 1) + x.force(0) + x.feed(1, 'x', 0, 0, 0, 0) + x.text();
            }
            long bytes = made() - ahead;
            if (round == 1) {
                Due.isTrue("some 430 calls make " + bytes + " bytes", bytes < 10000);
            }
        }
    }

    private static void textsAreSmall() {
        BiteFirst x = full();
        String long160 = "pays 1+2+3+4+5+6+7+8+9+1+2+3+4+5+6+7+8+9+1+2+3+4+5+6+7+8+9+1+2+3+4+5+6+7+8+9;likes worth;waits 0;";
        Due.text(x, long160);
        long ahead = made();
        Due.text(x, long160);
        Due.isTrue("a text makes little", made() - ahead < 8000);
    }
}
