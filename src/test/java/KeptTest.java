/** Promises 41 and 42: what is kept, and comes again. */
final class KeptTest {
    private KeptTest() {
    }

    static void run() {
        comesAgain();
        othersStay();
        theLatestStays();
    }

    private static void comesAgain() {
        SlowPanes x = new SlowPanes();
        Check.due("42: nothing is kept", x.again(), -3);
        x.pane(4, 3);
        x.pane(2, 5);
        x.hang(0, 1);
        x.view(1, 0, 60);
        x.love(2, 3, 8);
        x.seed(31);
        x.days(3);
        Check.due("41: kept", x.keep(), 1);
        x.cast(0, 0);
        x.turn(0);
        x.cut(1, 2);
        x.drop(1);
        x.hang(0, 2);
        x.view(1, 0, 61);
        x.love(2, 3, 7);
        x.seed(32);
        x.days(9);
        x.pane(0, 1);
        Check.due("42: two panes", x.again(), 2);
        Check.due("42: panes", x.many(0), 2);
        Check.due("42: kind", x.paneOf(0, 0), 4);
        Check.due("42: place", x.paneOf(0, 2), 1);
        Check.due("42: face", x.glimpse(0, 0), 21);
        Check.due("42: last glimpse", x.glimpse(0, 2), 1);
        Check.due("42: the other's kind", x.paneOf(1, 0), 2);
        Check.due("42: the other's glimpses", x.paneOf(1, 1), 5);
        Check.due("42: view", x.viewOf(1, 0), 60);
        Check.due("42: love", x.love(2, 3, 8), 8);
        Check.due("42: z", x.seed(31), 31);
        Check.due("42: today", x.today(), 3);
    }

    private static void othersStay() {
        SlowPanes x = new SlowPanes();
        x.pane(0, 2);
        x.pane(1, 2);
        x.shelf(0, 0, 1);
        x.sheet(2, 1, 3);
        x.put(2, 1, 5);
        x.shelf(1, 1, 2);
        x.feed(0x2020, 2);
        x.prove(0, 4);
        x.act(0, 0, 5);
        x.keep();
        x.feed(0x2020, 1);
        x.prove(0, 7);
        x.alterRow(1, 1, 88);
        x.act(0, 1, 5);
        x.put(2, 1, 6);
        x.sheet(3, 0, 1);
        x.shelf(1, 2, 0);
        x.shelf(2, 0, 0);
        x.drop(1);
        Check.due("42: the shelf's pane is gone", x.taken(0, 0), -11);
        x.again();
        Check.due("42: the tape stays", x.many(3), 3);
        Check.due("42: rows stay", x.many(2), 7);
        Check.due("42: a row stays", x.row(1, 1), 88);
        Check.due("42: the trace stays", x.many(4), 3);
        Check.due("42: a sheet stays", x.item(2, 1, 1), 6);
        Check.due("42: another sheet stays", x.item(3, 0, 0), 0);
        Check.due("42: a shelf stays", x.taken(2, 0), 0);
        Check.due("42: nothing stays", x.taken(1, 11), -11);
        Check.due("42: the pane of that number is there", x.taken(0, 1), 1);
    }

    private static void theLatestStays() {
        SlowPanes x = new SlowPanes();
        x.pane(0, 2);
        x.keep();
        x.pane(5, 3);
        x.hang(1, 2);
        x.keep();
        for (int i = 0; i < 3; i++) {
            x.days(2 + i);
            x.drop(0);
            x.view(2, 0, 90);
            Check.due("42: the latest", x.again(), 2);
            Check.due("42: no day went", x.today(), 0);
            Check.due("42: dark", x.many(1), 0);
            Check.due("42: its view", x.viewOf(2, 0), 0);
        }
        Check.quarry(x, "today 9;");
        Check.due("42: behind a quarry", x.again(), 2);
        Check.due("42: behind a quarry, today", x.today(), 0);
        SlowPanes y = new SlowPanes();
        y.keep();
        y.pane(0, 1);
        Check.due("42: no panes were kept", y.again(), 0);
        Check.due("42: none are there", y.many(0), 0);
    }
}
