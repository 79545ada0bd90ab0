/** Promises 13 to 17: DAYS go; PANES are TURNED, CUT, LAID and dropped. */
final class GlassTest {
    private GlassTest() {
    }

    static void run() {
        days();
        daysByKinds();
        turn();
        cut();
        lay();
        drop();
    }

    /** A pane of n glimpses that hung in a place for n days from today on. */
    private static int full(SlowPanes x, int kind, int place, int n) {
        int pane = x.pane(kind, n);
        x.hang(pane, place);
        x.days(n);
        return pane;
    }

    private static void row(String what, SlowPanes x, int pane, int... glimpses) {
        Check.due(what + ": how many", x.paneOf(pane, 1), glimpses.length);
        for (int i = 0; i < glimpses.length; i++) {
            Check.due(what + ": glimpse " + i, x.glimpse(pane, i), glimpses[i]);
        }
    }

    private static void days() {
        SlowPanes x = new SlowPanes();
        x.pane(0, 2);
        x.hang(0, 2);
        Check.due("13: none", x.days(0), 0);
        Check.due("13: BAD", x.days(-1), -1);
        Check.due("13: BAD 51", x.days(51), -1);
        Check.due("13: BAD far off", x.days(Integer.MAX_VALUE), -1);
        row("13: nothing went", x, 0, -9, -9);
        Check.due("13: one", x.days(1), 1);
        row("13: one", x, 0, 2, -9);
        Check.due("13: three", x.days(3), 4);
        row("13: three", x, 0, 32, 22);
        Check.due("13: as far as there are", x.days(50), 50);
        row("13: all", x, 0, 492, 482);
        Check.due("13: no more", x.days(5), 50);
        row("13: no more", x, 0, 492, 482);
        SlowPanes y = new SlowPanes();
        Check.due("13: all at once", y.days(50), 50);
    }

    private static void daysByKinds() {
        SlowPanes x = new SlowPanes();
        for (int kind = 0; kind < 6; kind++) {
            x.pane(kind, 3);
            x.hang(kind, kind % 4);
        }
        x.days(6);
        row("13: pane", x, 0, 50, 40, 30);
        row("13: thick", x, 1, 41, 21, 1);
        row("13: double", x, 2, 42, 2, -9);
        row("13: dark", x, 3, 53, 43, 33);
        row("13: rippled", x, 4, 50, 40, 30);
        row("13: mirror", x, 5, 51, 41, 31);
        x.days(2);
        row("13: double moves by four", x, 2, 42, 2, -9);
        x.days(1);
        row("13: double on day 8", x, 2, 82, 42, 2);
    }

    private static void turn() {
        SlowPanes x = new SlowPanes();
        Check.due("14: no pane", x.turn(0), -1);
        full(x, 0, 1, 3);
        x.view(1, 0, 10);
        x.view(1, 2, 70);
        Check.due("14: shows the other end", x.turn(0), 70);
        row("14: turned", x, 0, 1, 11, 21);
        Check.due("14: and back", x.turn(0), 10);
        row("14: back", x, 0, 21, 11, 1);
        Check.due("14: no pane 1", x.turn(1), -1);
        Check.due("14: no pane -1", x.turn(-1), -1);
        x.cast(0, 5);
        Check.due("14: by kind", x.turn(0), 29);
        x.days(1);
        row("14: takes in at the other face", x, 0, 31, 1, 11);
        x.pane(0, 4);
        x.turn(1);
        row("14: dark", x, 1, -9, -9, -9, -9);
    }

    private static void cut() {
        SlowPanes x = new SlowPanes();
        Check.due("15: no pane", x.cut(0, 1), -1);
        full(x, 5, 3, 5);
        Check.due("15: behind none", x.cut(0, 0), -1);
        Check.due("15: below 0", x.cut(0, Integer.MIN_VALUE), -1);
        Check.due("15: no pane 1", x.cut(1, 1), -1);
        Check.due("15: no more than five", x.cut(0, 5), -4);
        Check.due("15: far off", x.cut(0, Integer.MAX_VALUE), -4);
        row("15: unchanged", x, 0, 43, 33, 23, 13, 3);
        Check.due("15: behind the second", x.cut(0, 2), 1);
        row("15: the first", x, 0, 43, 33);
        row("15: the other", x, 1, 23, 13, 3);
        Check.due("15: keeps its kind", x.paneOf(0, 0), 5);
        Check.due("15: keeps its place", x.paneOf(0, 2), 3);
        Check.due("15: of kind pane", x.paneOf(1, 0), 0);
        Check.due("15: hangs nowhere", x.paneOf(1, 2), -9);
        Check.due("15: behind the last but one", x.cut(1, 2), 2);
        row("15: one left", x, 2, 3);
        Check.due("15: one can't be cut", x.cut(2, 1), -4);
        Check.due("15: 3", x.cut(0, 1), 3);
        Check.due("15: 4", x.cut(1, 1), 4);
        x.pane(0, 2);
        Check.due("15: FULL", x.cut(5, 1), -2);
        Check.due("15: STATE ahead of FULL", x.cut(5, 2), -4);
        Check.due("15: BAD ahead of STATE", x.cut(5, 0), -1);
        Check.due("15: not cut", x.paneOf(5, 1), 2);
        Check.due("15: six", x.many(0), 6);
        SlowPanes y = new SlowPanes();
        y.pane(4, 16);
        y.cut(0, 1);
        Check.due("15: fifteen", y.paneOf(1, 1), 15);
        Check.due("15: none behind them", y.glimpse(0, 1), -3);
    }

    private static void lay() {
        SlowPanes x = new SlowPanes();
        Check.due("16: no panes", x.lay(0, 1), -1);
        full(x, 3, 0, 2);
        full(x, 5, 1, 3);
        x.pane(4, 1);
        x.hang(2, 2);
        Check.due("16: the same", x.lay(1, 1), -1);
        Check.due("16: no pane 3", x.lay(0, 3), -1);
        Check.due("16: no pane -1", x.lay(-1, 0), -1);
        Check.due("16: neither", x.lay(7, 7), -1);
        Check.due("16: upon the last", x.lay(2, 0), 1);
        row("16: together", x, 1, -9, 40, 30);
        Check.due("16: kind of the first", x.paneOf(1, 0), 4);
        Check.due("16: place of the first", x.paneOf(1, 2), 2);
        Check.due("16: the one between is one less", x.paneOf(0, 0), 5);
        Check.due("16: two left", x.many(0), 2);
        Check.due("16: upon the first", x.lay(0, 1), 0);
        row("16: all together", x, 0, 41, 31, 21, -9, 40, 30);
        Check.due("16: one left", x.many(0), 1);
        x.pane(0, 10);
        Check.due("16: sixteen", x.lay(0, 1), 0);
        row("16: sixteen", x, 0, 41, 31, 21, -9, 40, 30, -9, -9, -9, -9, -9, -9, -9, -9, -9, -9);
        x.pane(0, 1);
        Check.due("16: FULL", x.lay(0, 1), -2);
        Check.due("16: FULL the other way", x.lay(1, 0), -2);
        Check.due("16: still two", x.many(0), 2);
        Check.due("16: still sixteen", x.paneOf(0, 1), 16);
        Check.due("16: BAD ahead of FULL", x.lay(0, 0), -1);
        x.cut(0, 7);
        x.hang(2, 3);
        x.days(9);
        Check.due("16: sixteen lit ones", x.lay(2, 0), 1);
        row("16: sixteen lit ones", x, 1, 133, 123, 113, 103, 93, 83, 73, 63, 53, 131, 121, 111, 101, 91, 81, 71);
    }

    private static void drop() {
        SlowPanes x = new SlowPanes();
        Check.due("17: no pane", x.drop(0), -1);
        for (int kind = 0; kind < 4; kind++) {
            x.pane(kind, kind + 1);
        }
        Check.due("17: no pane 4", x.drop(4), -1);
        Check.due("17: no pane -1", x.drop(-1), -1);
        Check.due("17: three left", x.drop(1), 3);
        Check.due("17: ahead of it", x.paneOf(0, 0), 0);
        Check.due("17: behind it", x.paneOf(1, 0), 2);
        Check.due("17: the last", x.paneOf(2, 1), 4);
        Check.due("17: gone", x.paneOf(3, 0), -1);
        Check.due("17: the last one is dropped", x.drop(2), 2);
        Check.due("17: the first one", x.drop(0), 1);
        Check.due("17: what is left", x.paneOf(0, 1), 3);
        Check.due("17: none left", x.drop(0), 0);
        Check.due("17: none", x.many(0), 0);
    }
}
