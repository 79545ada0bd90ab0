/** Promises 18 to 27: what will be seen, what it is worth, what is drawn. */
final class SeenTest {
    private static final int LEAST = Integer.MIN_VALUE, MOST = Integer.MAX_VALUE;

    private SeenTest() {
    }

    static void run() {
        dark();
        seen();
        worth();
        worthOfKinds();
        worthIsRefused();
        buy();
        let();
        best();
        turned();
        will();
        seed();
        draw();
        trialsChangeNothing();
    }

    private static void dark() {
        SlowPanes x = new SlowPanes();
        Check.due("18: no pane", x.dark(0), -1);
        x.pane(0, 3);
        Check.due("18: hangs nowhere", x.dark(0), -3);
        x.hang(0, 1);
        Check.due("18: three days", x.dark(0), 3);
        x.cast(0, 1);
        Check.due("18: thick: moves on 0, 2, 4", x.dark(0), 5);
        x.cast(0, 2);
        Check.due("18: double: moves on 0, 4, 8", x.dark(0), 9);
        x.cast(0, 0);
        x.days(2);
        Check.due("18: the same day", x.dark(0), 3);
        x.hang(0, 4);
        Check.due("18: what is on its way", x.dark(0), 3);
        x.days(1);
        Check.due("18: now", x.dark(0), 3);
        x.days(3);
        Check.due("18: nothing more comes", x.dark(0), -3);
        Check.due("18: no pane 1", x.dark(1), -1);
        Check.due("18: no pane -1", x.dark(-1), -1);
        x.pane(0, 1);
        x.hang(1, 0);
        x.days(42);
        Check.due("18: lit on day 48", x.dark(1), 48);
        x.pane(0, 1);
        x.hang(2, 0);
        Check.due("18: on the last day", x.dark(2), 49);
        x.pane(0, 2);
        x.hang(3, 0);
        Check.due("18: too late", x.dark(3), -3);
        x.days(2);
        Check.due("18: no day is left", x.dark(1), -3);
    }

    private static void seen() {
        SlowPanes x = new SlowPanes();
        Check.due("19: no panes", x.seen(0, 0, 0), -3);
        x.pane(0, 4);
        x.pane(0, 2);
        x.pane(1, 2);
        x.pane(0, 2);
        for (int i = 0; i < 4; i++) {
            x.hang(i, i == 0 ? 3 : 1);
        }
        Check.due("19: the day", x.seen(1, 0, 0), 2);
        Check.due("19: the pane, the least", x.seen(1, 0, 1), 1);
        Check.due("19: a later day", x.seen(1, 1, 0), 3);
        Check.due("19: by the first", x.seen(3, 5, 1), 0);
        Check.due("19: on day 9", x.seen(3, 5, 0), 9);
        Check.due("19: nothing hangs there", x.seen(0, 0, 1), -3);
        Check.due("19: on the last day", x.seen(1, 47, 0), 49);
        Check.due("19: too late", x.seen(1, 48, 0), -3);
        x.days(3);
        Check.due("19: is gone for 1 and 3, the thick one shows it", x.seen(1, 0, 1), 2);
        Check.due("19: on this day", x.seen(1, 0, 0), 3);
        x.days(2);
        Check.due("19: thick goes on on day 4", x.seen(1, 0, 0), -3);
        Check.due("19: thick shows it later than others", x.seen(1, 4, 1), 1);
        x.turn(0);
        Check.due("19: turned", x.seen(3, 4, 0), 5);
        int[][] bad = {{-1, 0, 0}, {4, 0, 0}, {0, -1, 0}, {0, 50, 0}, {0, 0, -1}, {0, 0, 2}, {MOST, LEAST, 0}};
        for (int[] b : bad) {
            Check.due("19: BAD", x.seen(b[0], b[1], b[2]), -1);
        }
        x.days(50);
        Check.due("19: no day is left", x.seen(1, 48, 0), -3);
        SlowPanes y = new SlowPanes();
        Check.due("19: BAD ahead of NONE", y.seen(0, 0, 2), -1);
    }

    /** Pane 0 hangs in place 1, whose views are 10, 20, 30 and so on. */
    private static SlowPanes rising(int kind, int n) {
        SlowPanes x = new SlowPanes();
        for (int day = 0; day < 9; day++) {
            x.view(1, day, 10 * day + 10);
        }
        x.pane(kind, n);
        x.hang(0, 1);
        return x;
    }

    private static void worth() {
        SlowPanes x = rising(0, 2);
        Check.due("20: dark yet", x.worth(0, 0, 2), 0);
        Check.due("20: one day", x.worth(0, 0, 3), 10);
        Check.due("20: two days", x.worth(0, 0, 4), 30);
        Check.due("20: three days", x.worth(0, 0, 5), 60);
        x.love(1, 1, 4);
        Check.due("20: by love", x.worth(0, 1, 5), 240);
        Check.due("20: the other's love", x.worth(0, 2, 5), 60);
        x.love(1, 1, 0);
        Check.due("20: no love", x.worth(0, 1, 20), 0);
        x.days(3);
        Check.due("20: today first", x.worth(0, 0, 1), 20);
        x.hang(0, 0);
        x.love(0, 0, 9);
        x.view(0, 3, 7);
        Check.due("20: the love for where it was", x.worth(0, 0, 3), 20 + 30 + 63);
        x.days(46);
        x.view(0, 47, 11);
        Check.due("20: as far as there are days", x.worth(0, 0, 20), 99);
        x.days(1);
        Check.due("20: no day is left", x.worth(0, 0, 20), 0);
    }

    private static void worthOfKinds() {
        // thick moves on 0, 2 and 4: lit from day 3 on; double on 0 and 4: lit from day 5 on
        int[] wanted = {10 + 20 + 30, 10 + 10, 10, 5 + 10 + 15, (5 + 10) + (10 + 15) + (15 + 20), 89 + 79 + 69};
        for (int kind = 0; kind < 6; kind++) {
            SlowPanes x = rising(kind, 2);
            Check.due("20: kind " + kind, x.worth(0, 0, kind == 2 ? 6 : 5), wanted[kind]);
        }
        SlowPanes x = rising(4, 3);
        x.days(2);
        Check.due("20: rippled shows what is ahead", x.paneOf(0, 3), 5);
        Check.due("20: but its last glimpse is dark", x.worth(0, 0, 1), 0);
    }

    private static void worthIsRefused() {
        SlowPanes x = new SlowPanes();
        Check.due("20: no pane", x.worth(0, 0, 1), -1);
        Check.due("22: no pane", x.let(0, 0, 1), -1);
        Check.due("23: no pane", x.best(0, 0, 1), -1);
        Check.due("24: no pane", x.turned(0, 0, 1), -1);
        x.pane(0, 1);
        int[][] bad = {{1, 0, 1}, {-1, 0, 1}, {0, -1, 1}, {0, 3, 1}, {0, 0, 0}, {0, 0, 21}, {0, 0, MOST},
            {LEAST, 0, 1}, {0, MOST, 1}, {0, 0, LEAST}};
        for (int[] b : bad) {
            Check.due("20: BAD", x.worth(b[0], b[1], b[2]), -1);
            Check.due("22: BAD", x.let(b[0], b[1], b[2]), -1);
            Check.due("23: BAD", x.best(b[0], b[1], b[2]), -1);
            Check.due("24: BAD", x.turned(b[0], b[1], b[2]), -1);
            if (b[0] == 0) {
                Check.due("21: BAD", x.buy(b[1], b[2]), -1);
            }
        }
        Check.due("20: twenty", x.worth(0, 2, 20), 0);
        Check.due("21: twenty", x.buy(2, 20), 0);
    }

    private static void buy() {
        SlowPanes x = new SlowPanes();
        Check.due("21: no panes", x.buy(0, 1), -3);
        Check.due("21: BAD ahead of NONE", x.buy(3, 1), -1);
        Check.due("21: BAD n ahead of NONE", x.buy(0, 0), -1);
        x.pane(0, 1);
        x.pane(0, 1);
        x.pane(0, 1);
        Check.due("21: all alike", x.buy(0, 5), 0);
        x.hang(1, 1);
        x.hang(2, 2);
        x.view(1, 0, 50);
        x.view(2, 0, 40);
        Check.due("21: the greatest", x.buy(0, 2), 1);
        x.love(1, 2, 2);
        Check.due("21: to another", x.buy(1, 2), 2);
        x.view(2, 0, 50);
        Check.due("21: of several the least", x.buy(0, 2), 1);
        Check.due("21: before it is seen", x.buy(1, 1), 0);
        x.days(50);
        Check.due("21: no day is left", x.buy(1, 1), 0);
    }

    private static void let() {
        SlowPanes x = new SlowPanes();
        x.pane(0, 1);
        Check.due("22: all alike", x.let(0, 0, 5), 0);
        x.hang(0, 1);
        x.view(2, 3, 9);
        Check.due("22: the best place", x.let(0, 0, 5), 2);
        Check.due("22: not seen in time", x.let(0, 0, 4), 0);
        x.view(3, 3, 9);
        Check.due("22: of several the least", x.let(0, 0, 5), 2);
        x.love(1, 3, 2);
        Check.due("22: by love", x.let(0, 1, 5), 3);
        Check.due("22: hangs where it hung", x.paneOf(0, 2), 1);
        x.cast(0, 5);
        for (int place = 0; place < 4; place++) {
            for (int day = 0; day < 9; day++) {
                x.view(place, day, 99);
            }
        }
        Check.due("22: nowhere isn't better", x.let(0, 0, 5), 0);
        x.days(2);
        x.hang(0, 4);
        x.view(3, 2, 98);
        Check.due("22: from today on", x.let(0, 0, 5), 3);
    }

    private static void best() {
        SlowPanes x = new SlowPanes();
        x.pane(0, 1);
        Check.due("23: one glimpse", x.best(0, 0, 5), -3);
        Check.due("23: BAD ahead of NONE", x.best(0, 0, 21), -1);
        x.pane(0, 4);
        Check.due("23: all dark", x.best(1, 0, 5), 1);
        x.hang(1, 1);
        x.view(1, 0, 90);
        x.view(1, 1, 5);
        x.view(1, 2, 7);
        x.view(1, 3, 1);
        x.days(4);
        x.hang(1, 4);
        // glimpses 1, 7, 5, 90: on one day 90 and the k-th are shown
        Check.due("23: the 7 beside the 90", x.best(1, 0, 1), 2);
        Check.due("23: 7, 90, 1 and 5 of two days", x.best(1, 0, 2), 2);
        Check.due("23: each one once in three days", x.best(1, 0, 3), 1);
        x.view(1, 1, 7);
        Check.due("23: of several the least", x.best(1, 0, 1), 2);
        x.cast(1, 5);
        Check.due("23: the first keeps its kind", x.best(1, 0, 1), 1);
        x.cast(1, 0);
        x.hang(1, 2);
        x.view(2, 4, 80);
        Check.due("23: the first hangs on, the other nowhere", x.best(1, 0, 2), 1);
        Check.due("23: nothing is cut", x.paneOf(1, 1), 4);
        for (int i = 0; i < 4; i++) {
            x.pane(0, 1);
        }
        Check.due("23: also if there are six", x.best(1, 0, 2), 1);
        x.days(50);
        Check.due("23: no day is left", x.best(1, 0, 2), 1);
    }

    private static void turned() {
        SlowPanes x = new SlowPanes();
        x.pane(0, 3);
        Check.due("24: all dark", x.turned(0, 0, 5), 100000);
        x.hang(0, 1);
        x.view(1, 0, 90);
        x.view(1, 2, 7);
        x.days(3);
        x.hang(0, 4);
        Check.due("24: worth less", x.turned(0, 0, 1), 100000 + 7 - 90);
        x.love(1, 1, 9);
        Check.due("24: by love", x.turned(0, 1, 1), 100000 + 63 - 810);
        Check.due("24: over three days the same", x.turned(0, 0, 3), 100000);
        x.turn(0);
        Check.due("24: worth more", x.turned(0, 0, 1), 100000 + 90 - 7);
        Check.due("24: it isn't turned", x.glimpse(0, 2), 21);
    }

    private static void will() {
        SlowPanes x = rising(0, 2);
        Check.due("25: dark", x.will(0, 1), 0);
        Check.due("25: on day 2", x.will(0, 2), 10);
        Check.due("25: on day 3", x.will(0, 3), 20);
        Check.due("25: on the last day", x.will(0, 49), 0);
        Check.due("25: no day 50", x.will(0, 50), -1);
        x.days(3);
        Check.due("25: today", x.will(0, 3), 20);
        Check.due("25: yesterday", x.will(0, 2), -1);
        Check.due("25: no day", x.will(0, -1), -1);
        Check.due("25: no pane", x.will(1, 5), -1);
        Check.due("25: no pane -1", x.will(-1, 5), -1);
        x.cast(0, 1);
        Check.due("25: thick stays on an odd day", x.will(0, 4), 20);
        Check.due("25: thick goes on", x.will(0, 5), 30);
        x.cast(0, 5);
        Check.due("25: mirror", x.will(0, 4), 69);
        x.days(50);
        Check.due("25: no day is left", x.will(0, 49), -1);
    }

    private static void seed() {
        SlowPanes x = new SlowPanes();
        Check.due("26: at first", x.seed(-5), 1);
        Check.due("26: then", x.seed(MOST), -5);
        Check.due("26: any int", x.seed(LEAST), MOST);
        Check.due("26: the least", x.seed(0), LEAST);
    }

    private static void draw() {
        SlowPanes x = new SlowPanes();
        Check.due("27: of 1", x.draw(2, 5), 38);
        Check.due("27: it is the view", x.viewOf(2, 5), 38);
        Check.due("27: z", x.seed(1), 1103527590);
        Check.due("27: no place", x.draw(4, 0), -1);
        Check.due("27: no place -1", x.draw(-1, 0), -1);
        Check.due("27: no day", x.draw(0, 50), -1);
        Check.due("27: no day -1", x.draw(0, -1), -1);
        Check.due("27: z stays", x.seed(0), 1);
        Check.due("27: of 0", x.draw(0, 49), 0);
        Check.due("27: z of 0", x.seed(MOST), 12345);
        int z = MOST * 1103515245 + 12345;
        Check.due("27: below 0", x.draw(0, 49), (z >>> 16) % 100);
        Check.due("27: z wraps", x.seed(1), z);
    }

    private static void trialsChangeNothing() {
        SlowPanes x = rising(4, 3);
        x.pane(2, 5);
        x.hang(1, 2);
        x.days(4);
        x.dark(0);
        x.seen(1, 9, 0);
        x.worth(0, 0, 20);
        x.buy(0, 20);
        x.let(0, 0, 20);
        x.best(0, 0, 20);
        x.turned(0, 0, 20);
        x.will(0, 49);
        x.prove(0, 20);
        x.judge(0);
        Check.due("20: today", x.today(), 4);
        Check.due("20: panes", x.many(0), 2);
        Check.due("20: kind", x.paneOf(0, 0), 4);
        Check.due("20: place", x.paneOf(0, 2), 1);
        for (int i = 0; i < 3; i++) {
            Check.due("20: glimpse", x.glimpse(0, i), 31 - 10 * i);
        }
        Check.due("20: the other one", x.glimpse(1, 0), 2);
        Check.due("20: the other one is dark yet", x.glimpse(1, 1), -9);
    }
}
