import java.lang.management.ManagementFactory;
import java.util.ArrayList;
import java.util.List;

/** All calls that an object is made for, objects beside one another, and the room that calls take. */
final class CallsTest {
    private static final int CALLS = 512;
    /** 7.3 million fields and elements of 8 bytes at most, and 600,000 heads of 16: 100 objects get a hundredth. */
    private static final long ROOM_OF_ONE = (7_300_000L * 8 + 600_000L * 16) / 100;

    private interface Call {
        int of(SlowPanes x, int i);
    }

    private CallsTest() {
    }

    static void run() {
        theLastCallsAnswer();
        refusedToTheLast();
        objectsAreApart();
        objectsAreAlike();
        aRunHasRoom();
    }

    private static void theLastCallsAnswer() {
        SlowPanes x = new SlowPanes();
        for (int i = 0; i < CALLS; i++) {
            Check.due("call " + (i + 1) + ": view", x.view(i / 50 % 4, i % 50, i % 100), i < 200 ? 0 : (i - 200) % 100);
        }
        SlowPanes y = new SlowPanes();
        y.pane(0, 3);
        y.shelf(0, 0, 0);
        for (int i = 2; i < CALLS; i++) {
            Check.due("call " + (i + 1) + ": act", y.act(0, 1, i), 2 * i);
        }
        SlowPanes z = new SlowPanes();
        for (int i = 0; i < CALLS / 4; i++) {
            Check.due("sheet", z.sheet(i % 4, i % 3, 40), 1);
            Check.due("put", z.put(i % 4, 39, i), 1);
            Check.due("item", z.item(i % 4, i % 3, 39), i);
            Check.due("shelf", z.shelf(i % 4, 1, i % 4), 1);
        }
        SlowPanes u = new SlowPanes();
        for (int i = 0; i < CALLS / 4; i++) {
            Check.due("keep", u.keep(), 1);
            Check.due("pane", u.pane(i % 6, 16), 0);
            Check.due("drop", u.drop(0), 0);
            Check.due("again", u.again(), 0);
        }
    }

    private static void refusedToTheLast() {
        SlowPanes x = new SlowPanes();
        for (int i = 0; i < CALLS - 1; i++) {
            Check.due("call " + (i + 1) + ": refused", x.pane(6, i), -1);
        }
        Check.due("call 512", x.pane(5, 1), 0);
    }

    /** What is done with one object leaves the others as they are. */
    private static void objectsAreApart() {
        SlowPanes fresh = new SlowPanes();
        SlowPanes x = Scene.six();
        SlowPanes y = Scene.some();
        List<Integer> before = asked(y);
        x.quarry();
        x.days(50);
        x.keep();
        x.sheet(0, 3, 40);
        x.shelf(1, 2, 0);
        x.act(0, 3, 5);
        Scene.six().again();
        Check.isTrue("1: another object stays", asked(y).equals(before));
        Check.isTrue("1: a new object stays new", asked(fresh).equals(asked(new SlowPanes())));
        Check.due("1: nothing is kept in it", fresh.again(), -3);
        Check.due("1: its tape is empty", fresh.many(3), 0);
    }

    /** The same calls always give the same answers. */
    private static void objectsAreAlike() {
        Check.isTrue("1: the same calls, the same answers", asked(Scene.six()).equals(asked(Scene.six())));
    }

    private static List<Integer> asked(SlowPanes x) {
        List<Integer> answers = new ArrayList<>();
        for (int what = 0; what < 5; what++) {
            answers.add(x.many(what));
            for (int pane = 0; pane < 6; pane++) {
                answers.add(x.paneOf(pane, what));
                answers.add(x.glimpse(pane, what));
            }
            answers.add(x.row(0, what));
            answers.add(x.trace(what));
        }
        for (int i = 0; i < 4; i++) {
            for (int as = 0; as < 14; as++) {
                answers.add(x.taken(i, as));
            }
            answers.add(x.item(i, 0, 1));
            answers.add(x.item(i, 2, 1));
            answers.add(x.viewOf(i, 1));
            answers.add(x.viewOf(i, 9));
        }
        answers.add(x.today());
        return answers;
    }

    /** A hundred objects, each of which is used for nothing but its dearest call, stay in one room. */
    private static void aRunHasRoom() {
        Call[] dearest = {(x, i) -> x.sheet(0, 3, 40), (x, i) -> x.act(0, 3, i), (x, i) -> x.best(0, 0, 20),
            (x, i) -> x.seen(3, 49, 0), (x, i) -> x.let(0, 0, 20), (x, i) -> x.quarry(), (x, i) -> x.keep(),
            (x, i) -> x.again(), (x, i) -> x.prove(0, 20), (x, i) -> x.judge(0), (x, i) -> x.turned(0, 0, 20)};
        for (int c = 0; c < dearest.length; c++) {
            roomOf(dearest[c]);
            long room = roomOf(dearest[c]);
            Check.isTrue("call " + c + " takes " + room + " bytes", room <= ROOM_OF_ONE);
        }
    }

    /** The bytes that an object and its calls take, as the machine counts them. */
    private static long roomOf(Call call) {
        com.sun.management.ThreadMXBean machine =
            (com.sun.management.ThreadMXBean) ManagementFactory.getThreadMXBean();
        long before = machine.getThreadAllocatedBytes(Thread.currentThread().getId());
        SlowPanes x = new SlowPanes();
        x.pane(4, 16);
        x.hang(0, 3);
        x.shelf(0, 0, 0);
        for (int i = 3; i < CALLS; i++) {
            call.of(x, i);
        }
        return machine.getThreadAllocatedBytes(Thread.currentThread().getId()) - before;
    }
}
