import java.lang.management.ManagementFactory;

/** All calls of a run live in one room, so a call makes next to nothing that stays there. */
public final class RoomTest {
    private static final String FULL = "room a; room b; room c; room d; room e; room f; room g; room h;"
        + "door a b 3; door b c 5; door c d 7; door d e 11; door e f 13; door f g 17; door g h 19; door h a 23;"
        + "door a e 29; door b f 31; door c g 37; door d h 41; tool o a;"
        + "task s a 999; step s 1 99 2 3 with o; step s 2 99 2 3; task t e 999; step t 1 99 2 3; step t 1 9 1 1 undoes 0;"
        + "man k h left s 0; man l f left s 1; man m c left t 0; man n a left t 1;"
        + "law k = if stuff < last then 1 else minute * times / steps; law n = times - last; night 600;";

    private RoomTest() { }

    private static long bytes() {
        return ((com.sun.management.ThreadMXBean) ManagementFactory.getThreadMXBean()).getCurrentThreadAllocatedBytes();
    }

    public static void main(String[] args) {
        run();
        long ahead = bytes();
        run();
        long made = bytes() - ahead;
        System.out.println("a run of dear calls makes " + made + " bytes");
        // The object itself with its rows, the table for the doors, and the texts that Check makes.
        Check.due("a run's room", made < 400000, true);
        Check.end();
    }

    private static void run() {
        SleepWork x = Check.house(FULL);
        for (int i = 0; i < 12; i++) {
            x.tell(0, 0, i);
            x.night();
            x.best(0, 0);
            x.bestOfTwo(0, 1, 0);
            x.hide(0, 0);
            x.bars(0);
            x.hire(1);
            x.fits(2, 1, -1);
            x.suspects(1);
            x.pairs(2, 3, 1);
            x.strokes(0, 300);
            x.hold(i % 3);
            x.undo();
            x.work(0, 0);
            x.restore(i % 3);
        }
    }
}
