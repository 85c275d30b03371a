import com.sun.management.ThreadMXBean;
import java.lang.management.ManagementFactory;

/** One run lives in one room: what an object takes when it is made, and that calls take nothing more. */
final class RoomTest {
    private static final String CROWDED = "ship 10" + ";man 0 0;man 1 1;man 2 2;man 3 0".repeat(2)
        + ";order 9 0;order 8 1;order 7 24;order 6 5555;order 5 10;order 4 123;order 3 6;order 2 77"
        + ";means 0 0 0;means 0 1 0;means 0 2 0;means 0 3 0;means 1 0 6;means 1 2 5;means 2 3 4"
        + ";means 3 3 0;means 4 4 7;means 5 0 6";

    private static final ThreadMXBean BEAN = (ThreadMXBean) ManagementFactory.getThreadMXBean();

    public static void main(String[] args) {
        spend(new ChoirShip());
        long before = taken();
        ChoirShip x = new ChoirShip();
        long made = taken() - before;
        Kit.due("an object takes " + made + " bytes, more than 80000", made > 80000, false);
        Kit.feed(x, CROWDED);
        Kit.due("the ship", x.ship(), 8);
        Kit.rule(x, "wake 1 if " + "not [".repeat(5) + "man*3+hour%7 > need/9 and tired < 5" + "]".repeat(5));
        before = taken();
        spend(x);
        long more = taken() - before;
        Kit.due("calls take " + more + " bytes, more than a little", more > 2000, false);
        Kit.finish("RoomTest");
    }

    private static long taken() {
        return BEAN.getCurrentThreadAllocatedBytes();
    }

    /** Each call of the face, many times. */
    private static int spend(ChoirShip x) {
        int sum = 0;
        for (int i = 0; i < 40; i++) {
            int o = i % 8;
            sum += x.man(o, i % 7) + x.order(o, i % 6) + x.means(i % 10, o) + x.meaning(12345, 5);
            sum += x.say(120 + o, 3) + x.hour() + x.sicken(o, i % 3) + x.teach(i % 10) + x.turn(i % 3);
            sum += (x.wake(o, i % 2 == 0) ? 1 : 0) + x.undo() + x.image(i % 4) + x.back(i % 4);
            sum += x.sayable() + x.shortest(o, 5) + x.fewest(i * 6, 1) + x.watches(i, 1) + x.boy(1);
            sum += x.lacks(o, 2) + x.nearest(1234, 4, 1) + x.done(o, i % 2 == 0) + x.awake(2) + x.ask(1);
            sum += x.seed(i) + x.voyages(10, 20, i, 1) + x.count(8) + x.run(0, 3) + x.done(-1, true);
            sum += x.feed(i, i, i, i, i) + x.end(i % 20) + x.rule() + x.feed(i, i, i, i, i) + x.ship();
        }
        return sum;
    }
}
