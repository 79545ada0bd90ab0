/** Promises 28 to 32: ROWS, THE READER, VIEWS from a SHEET. */
final class RowsTest {
    private static final int LEAST = Integer.MIN_VALUE, MOST = Integer.MAX_VALUE;

    private RowsTest() {
    }

    static void run() {
        prove();
        proveByKinds();
        row();
        judge();
        judgeNearTheEnd();
        views();
        viewsAreRefused();
    }

    private static SlowPanes one(int kind, int n) {
        SlowPanes x = new SlowPanes();
        x.pane(kind, n);
        x.hang(0, 2);
        for (int day = 0; day < 50; day++) {
            x.view(2, day, day + 21);
        }
        return x;
    }

    private static void rowIs(SlowPanes x, int i, int day, int shown, int glimpse) {
        Check.due("28: day of row " + i, x.row(i, 0), day);
        Check.due("28: shown of row " + i, x.row(i, 1), shown);
        Check.due("28: glimpse of row " + i, x.row(i, 2), glimpse);
    }

    private static void prove() {
        SlowPanes x = new SlowPanes();
        Check.due("28: no pane", x.prove(0, 5), -1);
        x = one(0, 2);
        Check.due("28: four", x.prove(0, 4), 4);
        Check.due("28: counted", x.many(2), 4);
        rowIs(x, 0, 0, 0, -9);
        rowIs(x, 1, 1, 0, -9);
        rowIs(x, 2, 2, 21, 2);
        rowIs(x, 3, 3, 22, 12);
        Check.due("28: no n 0", x.prove(0, 0), -1);
        Check.due("28: no n 21", x.prove(0, 21), -1);
        Check.due("28: no pane 1", x.prove(1, 4), -1);
        Check.due("28: no pane -1", x.prove(-1, 4), -1);
        Check.due("28: no n far off", x.prove(0, MOST), -1);
        Check.due("28: rows stay", x.many(2), 4);
        x.days(47);
        Check.due("28: as far as there are days", x.prove(0, 20), 3);
        rowIs(x, 0, 47, 66, 452);
        rowIs(x, 2, 49, 68, 472);
        x.days(2);
        Check.due("28: one day", x.prove(0, 2), 1);
        x.days(1);
        Check.due("28: no day is left", x.prove(0, 2), 0);
        Check.due("28: no rows", x.many(2), 0);
        x = one(0, 1);
        Check.due("28: twenty", x.prove(0, 20), 20);
        rowIs(x, 19, 19, 39, 182);
    }

    private static void proveByKinds() {
        SlowPanes x = one(1, 1);
        x.prove(0, 4);
        rowIs(x, 1, 1, 21, 2);
        rowIs(x, 2, 2, 21, 2);
        rowIs(x, 3, 3, 23, 22);
        x = one(4, 2);
        x.prove(0, 3);
        rowIs(x, 0, 0, 0, -9);
        rowIs(x, 1, 1, 10, -9);
        rowIs(x, 2, 2, 21, 2);
        x = one(5, 1);
        x.prove(0, 2);
        rowIs(x, 0, 0, 0, -9);
        rowIs(x, 1, 1, 78, 2);
    }

    private static void row() {
        SlowPanes x = one(0, 2);
        Check.due("29: none", x.row(0, 0), -99);
        Check.due("30: none", x.alterRow(0, 0, 5), -99);
        x.prove(0, 3);
        int[][] bad = {{3, 0}, {-1, 0}, {0, -1}, {0, 3}, {MOST, 0}, {LEAST, 2}, {0, MOST}, {1, LEAST}};
        for (int[] b : bad) {
            Check.due("29: no such row or what", x.row(b[0], b[1]), -99);
            Check.due("30: no such row or what", x.alterRow(b[0], b[1], 7), -99);
        }
        rowIs(x, 0, 0, 0, -9);
        rowIs(x, 2, 2, 21, 2);
        Check.due("30: what it was", x.alterRow(2, 1, MOST), 21);
        Check.due("30: altered", x.row(2, 1), MOST);
        Check.due("30: again", x.alterRow(2, 1, LEAST), MOST);
        Check.due("30: day", x.alterRow(1, 0, -7), 1);
        Check.due("30: glimpse", x.alterRow(1, 2, 8), -9);
        Check.due("30: the day is altered", x.row(1, 0), -7);
        Check.due("30: the glimpse is altered", x.row(1, 2), 8);
        Check.due("30: the row ahead isn't", x.row(0, 2), -9);
    }

    private static void judge() {
        SlowPanes x = new SlowPanes();
        Check.due("31: no pane", x.judge(0), -1);
        x = one(0, 2);
        x.pane(0, 3);
        Check.due("31: no rows", x.judge(0), 0);
        x.prove(0, 6);
        Check.due("31: right", x.judge(0), 0);
        Check.due("31: of another pane", x.judge(1), 3);
        Check.due("31: no pane 2", x.judge(2), -1);
        Check.due("31: no pane -1", x.judge(-1), -1);
        for (int i = 0; i < 6; i++) {
            for (int what = 0; what < 3; what++) {
                int was = x.alterRow(i, what, 77);
                Check.due("31: row " + i + " is wrong", x.judge(0), i + 1);
                x.alterRow(i, what, was);
            }
        }
        Check.due("31: right once more", x.judge(0), 0);
        x.alterRow(4, 0, 0);
        x.alterRow(2, 0, 0);
        Check.due("31: the first wrong one", x.judge(0), 3);
        x.prove(0, 6);
        x.view(2, 1, 99);
        Check.due("31: as the view is told now", x.judge(0), 4);
        x.prove(0, 6);
        x.days(1);
        Check.due("31: from now on", x.judge(0), 1);
        x.prove(0, 6);
        x.cast(0, 3);
        Check.due("31: of another kind", x.judge(0), 2);
    }

    private static void judgeNearTheEnd() {
        SlowPanes x = one(0, 2);
        x.prove(0, 3);
        x.days(48);
        for (int i = 0; i < 2; i++) {
            x.alterRow(i, 0, 48 + i);
            x.alterRow(i, 1, 67 + i);
            x.alterRow(i, 2, 462 + 10 * i);
        }
        x.alterRow(2, 0, 50);
        x.alterRow(2, 1, 69);
        x.alterRow(2, 2, 482);
        Check.due("31: day 50 is wrong", x.judge(0), 3);
        x.days(2);
        Check.due("31: no day is left", x.judge(0), 1);
        x.prove(0, 1);
        Check.due("31: no rows in the end", x.judge(0), 0);
    }

    private static void views() {
        SlowPanes x = new SlowPanes();
        x.sheet(1, 0, 5);
        int[] items = {-128, -1, 99, 100, 127};
        for (int i = 0; i < 5; i++) {
            x.put(1, i, items[i]);
        }
        x.view(2, 5, 55);
        x.view(2, 11, 66);
        Check.due("32: five", x.views(1, 0, 2, 6, 5), 5);
        int[] wanted = {55, 0, 0, 99, 99, 99, 66};
        for (int i = 0; i < 7; i++) {
            Check.due("32: view", x.viewOf(2, 5 + i), wanted[i]);
        }
        x.put(1, 3, 42);
        Check.due("32: from 3 on, to the last day", x.views(1, 3, 0, 48, 2), 2);
        Check.due("32: day 48", x.viewOf(0, 48), 42);
        Check.due("32: day 49", x.viewOf(0, 49), 99);
        Check.due("32: the next place is as it was", x.viewOf(1, 0), 0);
        Check.due("32: none", x.views(1, 5, 0, 49, 0), 0);
        x.sheet(2, 0, 0);
        Check.due("32: none of none", x.views(2, 0, 0, 0, 0), 0);
        x.sheet(2, 0, 40);
        x.put(2, 39, 3);
        Check.due("32: forty", x.views(2, 0, 3, 10, 40), 40);
        Check.due("32: the fortieth", x.viewOf(3, 49), 3);
    }

    private static void viewsAreRefused() {
        SlowPanes x = new SlowPanes();
        x.sheet(0, 0, 3);
        x.sheet(1, 1, 3);
        for (int i = 0; i < 3; i++) {
            x.put(0, i, 9);
        }
        int[][] bad = {{-1, 0, 0, 0, 1}, {4, 0, 0, 0, 1}, {0, 0, -1, 0, 1}, {0, 0, 4, 0, 1}, {0, 0, 0, -1, 1},
            {0, 0, 0, 50, 0}, {0, 0, 0, 0, -1}, {0, 0, 0, 0, 51}, {0, 0, 0, 48, 3}, {0, 0, 0, 1, MOST},
            {3, -1, 0, 49, 2}, {1, 9, 4, 0, 0}};
        for (int[] b : bad) {
            Check.due("32: BAD", x.views(b[0], b[1], b[2], b[3], b[4]), -1);
        }
        Check.due("32: missing", x.views(3, 0, 0, 0, 1), -11);
        Check.due("32: missing ahead of outside", x.views(3, -1, 0, 0, 0), -11);
        Check.due("32: shorts", x.views(1, 0, 0, 0, 1), -13);
        Check.due("32: shorts ahead of outside", x.views(1, 7, 0, 0, 1), -13);
        Check.due("32: outside", x.views(0, -1, 0, 0, 1), -12);
        Check.due("32: outside with none", x.views(0, 4, 0, 0, 0), -12);
        Check.due("32: -1 with none", x.views(0, -1, 0, 0, 0), -12);
        Check.due("32: too many", x.views(0, 1, 0, 0, 3), -12);
        Check.due("32: far more than it has", x.views(0, 0, 0, 0, 50), -12);
        Check.due("32: far off", x.views(0, MOST, 0, 0, 1), -12);
        Check.due("32: far below", x.views(0, LEAST, 0, 0, 50), -12);
        for (int day = 0; day < 50; day++) {
            Check.due("32: nothing came", x.viewOf(0, day), 0);
        }
    }
}
