import com.sun.management.ThreadMXBean;
import java.lang.management.ManagementFactory;

/** What a run makes is counted (LANGUAGE.md, rule 12): all rows are made with the object, and one image at the first image(). */
public final class RoomTest {
    /** A new object, or an image: far below what one run has room for. */
    private static final long MOST_BYTES_OF_AN_OBJECT = 32 * 1024;
    private static final int CALLS = 512;
    private static final String GARDEN = "gcp/pcg;r0001,e0112,q0223,d1034,w1149";

    private static final ThreadMXBean MADE = (ThreadMXBean) ManagementFactory.getThreadMXBean();

    public static void main(String[] args) {
        // once ahead, lest what the machine makes to load the class be counted
        wholeRun();
        Due.that("a new object is small", madeByNew() <= MOST_BYTES_OF_AN_OBJECT);
        Due.that("an image is small, and made once", madeByImages() <= MOST_BYTES_OF_AN_OBJECT);
        Due.due("bytes made by the dearest calls", madeByRun(), 0);
        Due.due("bytes made by all other calls, and by a garden that stands", madeByOthers(), 0);
        Due.end();
    }

    private static long madeByNew() {
        long ahead = MADE.getCurrentThreadAllocatedBytes();
        LawnRings x = new LawnRings();
        long behind = MADE.getCurrentThreadAllocatedBytes();
        return behind - ahead + Math.min(0, x.count(0));
    }

    private static long madeByImages() {
        LawnRings x = new LawnRings();
        long ahead = MADE.getCurrentThreadAllocatedBytes();
        for (int i = 0; i < CALLS / 2; i++) {
            x.image();
            x.restore();
        }
        return MADE.getCurrentThreadAllocatedBytes() - ahead;
    }

    private static long madeByRun() {
        LawnRings x = greatest();
        long ahead = MADE.getCurrentThreadAllocatedBytes();
        dearest(x);
        return MADE.getCurrentThreadAllocatedBytes() - ahead;
    }

    private static long madeByOthers() {
        LawnRings x = greatest();
        long ahead = MADE.getCurrentThreadAllocatedBytes();
        others(x);
        return MADE.getCurrentThreadAllocatedBytes() - ahead;
    }

    private static void wholeRun() {
        madeByNew();
        madeByImages();
        madeByRun();
        madeByOthers();
    }

    private static LawnRings greatest() {
        LawnRings x = new LawnRings();
        x.lawn(8, 8);
        for (int i = 0; i < 5; i++) {
            x.sprinkler(4, 9 * i, 4, 9);
        }
        x.rule(1, 5);
        for (int i = 0; i < 5; i++) {
            x.turn(i, 1);
        }
        x.sheet(0, 3, 24);
        x.image();
        return x;
    }

    private static void dearest(LawnRings x) {
        for (int i = 0; i < CALLS / 16; i++) {
            x.minutes(60);
            x.drift(60);
            x.sun(99);
            x.undo();
            x.wrongs(99, 0);
            x.enough();
            x.stand(4, 40, 0);
            x.set(40, 0);
            x.turns(20, LawnRings.NONE);
            x.image();
            x.restore();
            x.tins(0, 3, 0, 8, 20, 0);
            x.film(40, 24, 0, 3, 0);
            x.sheet(0, 3, 24);
            x.garden();
            x.cell(63, 3);
        }
    }

    private static void others(LawnRings x) {
        x.soil(0, 1);
        x.of(0, 5);
        x.turn(0, 0);
        x.rule(0, 3);
        x.count(10);
        x.move(0, 1);
        x.seed(7);
        x.ahead(63, 99);
        x.item(0, 3, 0, 9L);
        x.copy(0, 0, 0, 1, 23);
        x.drop(0);
        type(x, GARDEN);
        Due.due("the garden that stands", x.garden(), 6);
        type(x, GARDEN);
        x.type(';');
        Due.due("the garden that faults", x.garden(), -20 - GARDEN.length());
        x.lawn(8, 8);
        x.sprinkler(0, 63, 4, 9);
    }

    private static void type(LawnRings x, String letters) {
        for (int i = 0; i < letters.length(); i++) {
            x.type(letters.charAt(i));
        }
    }
}
