/**
 * Each refusal that a promise names but BAD for a number out of its range (that is RangeTest's): its answer, and that
 * it changes nothing. Where two meet in one call: the one that the promise names first.
 */
final class RefusedTest {
    private static final int LEAST = Integer.MIN_VALUE, MOST = Integer.MAX_VALUE;

    private RefusedTest() {
    }

    static void run() {
        noPanes();
        feedFull();
        paneFull();
        cutFull();
        cutState();
        laidFull();
        laidUponItself();
        neverLit();
        neverSeen();
        nothingToBuy();
        nothingToCut();
        nothingKept();
        missingSheets();
        otherSorts();
        aFaultUsesTheTapeUp();
        anActOfNothing();
        anActPartedBy0();
        itemsAsLowAsRefusals();
        feedTwice();
        paneTwice();
        glimpseTwice();
        cutTwice();
        layTwice();
        seenTwice();
        buyTwice();
        bestTwice();
        viewsTwice();
        viewsTwiceOfTheHost();
        sheetTwice();
        putTwice();
        itemTwice();
        takenTwice();
        questionsChangeNothing();
        trialsChangeNothing();
    }

    /** Without PANES number 0 is none, in each call that takes one. */
    private static void noPanes() {
        Scene.changesNothing("8: there are no PANES", -1, SlowPanes::new, x -> x.paneOf(0, 0));
        Scene.changesNothing("9: there are no PANES", -1, SlowPanes::new, x -> x.glimpse(0, 0));
        Scene.changesNothing("10: there are no PANES", -1, SlowPanes::new, x -> x.hang(0, 0));
        Scene.changesNothing("11: there are no PANES", -1, SlowPanes::new, x -> x.cast(0, 0));
        Scene.changesNothing("14: there are no PANES", -1, SlowPanes::new, x -> x.turn(0));
        Scene.changesNothing("15: there are no PANES", -1, SlowPanes::new, x -> x.cut(0, 1));
        Scene.changesNothing("16: there are no PANES", -1, SlowPanes::new, x -> x.lay(0, 1));
        Scene.changesNothing("17: there are no PANES", -1, SlowPanes::new, x -> x.drop(0));
        Scene.changesNothing("18: there are no PANES", -1, SlowPanes::new, x -> x.dark(0));
        Scene.changesNothing("20: there are no PANES", -1, SlowPanes::new, x -> x.worth(0, 0, 1));
        Scene.changesNothing("22: there are no PANES", -1, SlowPanes::new, x -> x.let(0, 0, 1));
        Scene.changesNothing("23: there are no PANES", -1, SlowPanes::new, x -> x.best(0, 0, 1));
        Scene.changesNothing("24: there are no PANES", -1, SlowPanes::new, x -> x.turned(0, 0, 1));
        Scene.changesNothing("25: there are no PANES", -1, SlowPanes::new, x -> x.will(0, 0));
        Scene.changesNothing("28: there are no PANES", -1, SlowPanes::new, x -> x.prove(0, 1));
        Scene.changesNothing("31: there are no PANES", -1, SlowPanes::new, x -> x.judge(0));
    }

    private static void feedFull() {
        Check.due("2: 200", Scene.fed().feed(0x20, 1), 200);
        for (int n = 2; n <= 8; n++) {
            int more = n;
            Scene.changesNothing("2: " + (199 + n), -2, Scene::fed, x -> x.feed(0x2020202020202020L, more));
        }
        SlowPanes x = Scene.fed();
        x.feed(0x20, 1);
        Check.due("2: the 201st", x.feed(0x3b, 1), -2);
        Check.due("2: it isn't there", x.many(3), 200);
        Check.due("2: nor is it read", x.quarry(), 1);
        Check.due("2: THE TAPE is empty", x.many(3), 0);
        Check.due("2: and takes from the first on", x.feed(0x3b, 1), 1);
    }

    private static void paneFull() {
        Check.due("7: the sixth", Scene.six().many(0), 6);
        for (int kind = 0; kind < 6; kind++) {
            int seventh = kind;
            Scene.changesNothing("7: the seventh", -2, Scene::six, x -> x.pane(seventh, 1));
            Scene.changesNothing("7: the seventh of 16", -2, Scene::six, x -> x.pane(seventh, 16));
        }
        SlowPanes x = Scene.six();
        x.drop(0);
        Check.due("7: the sixth once more", x.pane(0, 1), 5);
    }

    private static void cutFull() {
        Scene.changesNothing("15: the seventh", -2, Scene::six, x -> x.cut(0, 1));
        Scene.changesNothing("15: the seventh, behind the last but one", -2, Scene::six, x -> x.cut(3, 15));
        SlowPanes x = Scene.six();
        x.drop(5);
        Check.due("15: the sixth", x.cut(0, 1), 5);
    }

    private static void cutState() {
        Scene.changesNothing("15: one GLIMPSE", -4, Scene::six, x -> x.cut(4, 1));
        Scene.changesNothing("15: two GLIMPSES", -4, Scene::some, x -> x.cut(1, 2));
        Scene.changesNothing("15: two GLIMPSES, behind the third", -4, Scene::some, x -> x.cut(1, 3));
        Scene.changesNothing("15: sixteen GLIMPSES", -4, Scene::some, x -> x.cut(2, 16));
        Scene.changesNothing("15: sixteen GLIMPSES, behind the 17th", -4, Scene::some, x -> x.cut(2, 17));
    }

    private static void laidFull() {
        Scene.changesNothing("16: 16 and 16", -2, Scene::six, x -> x.lay(2, 3));
        Scene.changesNothing("16: 16 and 1", -2, Scene::six, x -> x.lay(3, 4));
        Scene.changesNothing("16: 1 and 16", -2, Scene::six, x -> x.lay(4, 3));
        SlowPanes x = Scene.some();
        x.pane(0, 13);
        x.pane(0, 14);
        Check.due("16: 3 and 14", x.lay(0, 4), -2);
        Check.due("16: 14 and 3", x.lay(4, 0), -2);
        Check.due("16: 3 and 13", x.lay(0, 3), 0);
        Check.due("16: sixteen", x.paneOf(0, 1), 16);
    }

    private static void laidUponItself() {
        for (int pane = 0; pane < 3; pane++) {
            int same = pane;
            Scene.changesNothing("16: the same", -1, Scene::some, x -> x.lay(same, same));
        }
    }

    private static void neverLit() {
        Scene.changesNothing("18: all dark, and nowhere", -3, Scene::six, x -> x.dark(3));
        Scene.changesNothing("18: lit, but no DAY is left", -3, Scene::ended, x -> x.dark(0));
    }

    private static void neverSeen() {
        Scene.changesNothing("19: no PANES, the DAY", -3, SlowPanes::new, x -> x.seen(0, 0, 0));
        Scene.changesNothing("19: no PANES, the PANE", -3, SlowPanes::new, x -> x.seen(0, 0, 1));
        Scene.changesNothing("19: gone by", -3, Scene::some, x -> x.seen(1, 2, 0));
        Scene.changesNothing("19: none hangs there", -3, Scene::some, x -> x.seen(3, 9, 1));
        Scene.changesNothing("19: seen now, but no DAY is left", -3, Scene::ended, x -> x.seen(1, 47, 0));
        Check.due("19: it is the last GLIMPSE indeed", Scene.ended().glimpse(0, 2), 471);
    }

    private static void nothingToBuy() {
        Scene.changesNothing("21: there are no PANES", -3, SlowPanes::new, x -> x.buy(0, 1));
        SlowPanes x = Scene.some();
        x.drop(0);
        x.drop(0);
        Check.due("21: one is left", x.buy(0, 1), 0);
        x.drop(0);
        Check.due("21: none is left", x.buy(0, 1), -3);
    }

    private static void nothingToCut() {
        Scene.changesNothing("23: it has but one GLIMPSE", -3, Scene::six, x -> x.best(4, 0, 1));
        Check.due("23: two GLIMPSES", Scene.six().best(5, 0, 1), 1);
    }

    private static void nothingKept() {
        Scene.changesNothing("42: nothing is kept", -3, SlowPanes::new, SlowPanes::again);
        SlowPanes x = new SlowPanes();
        x.pane(2, 3);
        x.view(1, 1, 9);
        Check.due("42: nothing is kept, something is there", x.again(), -3);
        Check.due("42: the PANE stays", x.paneOf(0, 1), 3);
        Check.due("42: the VIEW stays", x.viewOf(1, 1), 9);
    }

    private static void missingSheets() {
        for (int sheet = 0; sheet < 4; sheet++) {
            int missing = sheet;
            Scene.changesNothing("32: missing", -11, SlowPanes::new, x -> x.views(missing, 0, 0, 0, 1));
            Scene.changesNothing("34: missing", -11, SlowPanes::new, x -> x.put(missing, 0, 1));
            for (int sort = 0; sort < 4; sort++) {
                int as = sort;
                Scene.changesNothing("35: missing", -11, SlowPanes::new, x -> x.item(missing, as, 0));
            }
        }
        Scene.changesNothing("32: missing with none", -11, Scene::some, x -> x.views(2, 0, 0, 0, 0));
    }

    private static void otherSorts() {
        for (int sort = 1; sort < 4; sort++) {
            SlowPanes x = new SlowPanes();
            x.sheet(1, sort, 3);
            x.put(1, 0, 44);
            Check.due("32: taken for bytes", x.views(1, 0, 0, 0, 1), -13);
            Check.due("32: none of them", x.views(1, 0, 0, 0, 0), -13);
            Check.due("32: nothing is changed", x.viewOf(0, 0), 0);
        }
        Scene.changesNothing("32: ints", -13, Scene::some, x -> x.views(1, 0, 0, 0, 1));
        Scene.changesNothing("32: longs", -13, Scene::some, x -> x.views(3, 0, 0, 0, 0));
    }

    private static void aFaultUsesTheTapeUp() {
        String[] texts = {"today 9;view 1 from 0:5,6;love 1 9 9 9 9;mirror 3", "pane 1;pane 17;", "today 51;", "x"};
        int[] faults = {49, 12, 6, 0};
        for (int i = 0; i < texts.length; i++) {
            String text = texts[i];
            Scene.changesNothing("3: '" + text + "'", -100 - faults[i], Scene::unfed, x -> Check.quarry(x, text));
            SlowPanes x = Scene.unfed();
            Check.quarry(x, text);
            Check.due("3: THE TAPE is used up", x.many(3), 0);
            Check.due("3: and takes from the first on", x.feed(0x20, 1), 1);
        }
    }

    /** 0 is no refusal: THE TRACE is gone, but nothing else is changed. */
    private static void anActOfNothing() {
        int[][] calls = {{-1, 0}, {4, 0}, {LEAST, 0}, {MOST, 0}, {0, -1}, {0, 4}, {0, LEAST}, {0, MOST}, {2, 0}, {1, 0},
            {2, 9}, {1, -1}, {9, 9}};
        for (int[] call : calls) {
            SlowPanes x = Scene.some();
            Check.due("38: no such SHELF, act, nothing, a row", x.act(call[0], call[1], 7), 0);
            Check.due("38: no TRACE then", x.many(4), 0);
            Check.due("38: no body then", x.trace(0), -3);
            // another act brings the TRACE of the scene again: all else must be as it was
            Scene.changesNothing("38: and an act again", 48, Scene::some, y -> {
                y.act(call[0], call[1], 7);
                return y.act(0, 1, 7);
            });
        }
    }

    /** Pane n has n glimpses: each way to share is parted by 0, and not with one glimpse more or less. */
    private static void anActPartedBy0() {
        for (int kind = 0; kind < 6; kind++) {
            for (int n = 1; n < 6; n++) {
                Check.due("38: a is n, kind " + kind, numbered(kind, n, n).act(0, 2, 9), -15);
                Check.due("38: a is 1 more", numbered(kind, n, n + 1).act(0, 2, 9), shared(kind, n, n + 1));
                if (n > 1) {
                    Check.due("38: a is 1 less", numbered(kind, n, n - 1).act(0, 2, 9), shared(kind, n, n - 1));
                }
            }
        }
        // another act brings the TRACE of the scene again: all else must be as it was
        Scene.changesNothing("38: and an act again", 42, RefusedTest::oneOfOne, x -> x.act(0, 3, 7) == -15
            ? x.act(0, 1, 6) : 0);
    }

    /** An object with panes up to number n, the last one of this kind and with a glimpses; it is on shelf 0. */
    private static SlowPanes numbered(int kind, int n, int a) {
        SlowPanes x = new SlowPanes();
        for (int i = 0; i < n; i++) {
            x.pane(0, 16);
        }
        x.pane(kind, a);
        x.shelf(0, 0, n);
        return x;
    }

    private static int shared(int kind, int n, int a) {
        switch (kind) {
            case 2: return (9 + 2) / (a - n) ^ 1;
            case 5: return 9 / (a - n) + a + n;
            default: return 9 / (a - n);
        }
    }

    /** Some, where pane 1, the dark one on shelf 0, has one glimpse, and an act of it was the latest. */
    private static SlowPanes oneOfOne() {
        SlowPanes x = Scene.some();
        x.cut(1, 1);
        x.act(0, 1, 6);
        return x;
    }

    private static void itemsAsLowAsRefusals() {
        for (int sort = 0; sort < 4; sort++) {
            SlowPanes x = new SlowPanes();
            x.sheet(0, sort, 1);
            for (int v : new int[] {-1, -2, -3, -4, -11, -12, -13, -14, -15, -99, -100}) {
                Check.due("34: put", x.put(0, 0, v), 1);
                Check.due("35: an item may be as low as these", x.item(0, sort, 0), v);
            }
        }
    }

    private static void feedTwice() {
        Scene.changesNothing("2: BAD ahead of FULL", -1, Scene::fed, x -> x.feed(0, 9));
        Scene.changesNothing("2: BAD ahead of FULL, far off", -1, Scene::fed, x -> x.feed(0, MOST));
        Scene.changesNothing("2: BAD, THE TAPE is all but full", -1, Scene::fed, x -> x.feed(0, 0));
    }

    private static void paneTwice() {
        Scene.changesNothing("7: BAD KIND ahead of FULL", -1, Scene::six, x -> x.pane(6, 1));
        Scene.changesNothing("7: BAD KIND -1 ahead of FULL", -1, Scene::six, x -> x.pane(-1, 1));
        Scene.changesNothing("7: BAD n ahead of FULL", -1, Scene::six, x -> x.pane(0, 17));
        Scene.changesNothing("7: BAD n 0 ahead of FULL", -1, Scene::six, x -> x.pane(0, 0));
    }

    private static void glimpseTwice() {
        Scene.changesNothing("9: BAD ahead of NONE", -1, Scene::some, x -> x.glimpse(3, 16));
        Scene.changesNothing("9: BAD ahead of NONE, below", -1, Scene::some, x -> x.glimpse(-1, -1));
    }

    private static void cutTwice() {
        Scene.changesNothing("15: BAD PANE, behind far off", -1, Scene::some, x -> x.cut(3, 16));
        Scene.changesNothing("15: BAD PANE ahead of FULL", -1, Scene::six, x -> x.cut(6, 1));
        Scene.changesNothing("15: BAD k ahead of FULL", -1, Scene::six, x -> x.cut(0, 0));
        Scene.changesNothing("15: BAD k, one GLIMPSE", -1, Scene::six, x -> x.cut(4, 0));
        Scene.changesNothing("15: STATE ahead of FULL", -4, Scene::six, x -> x.cut(0, 3));
        Scene.changesNothing("15: STATE ahead of FULL, one GLIMPSE", -4, Scene::six, x -> x.cut(4, 1));
        Scene.changesNothing("15: STATE ahead of FULL, sixteen", -4, Scene::six, x -> x.cut(3, 16));
    }

    private static void layTwice() {
        Scene.changesNothing("16: the same ahead of FULL", -1, Scene::six, x -> x.lay(3, 3));
        Scene.changesNothing("16: BAD second ahead of FULL", -1, Scene::six, x -> x.lay(3, 6));
        Scene.changesNothing("16: BAD first ahead of FULL", -1, Scene::six, x -> x.lay(6, 3));
        Scene.changesNothing("16: neither, and the same", -1, Scene::six, x -> x.lay(6, 6));
    }

    private static void seenTwice() {
        Scene.changesNothing("19: BAD PLACE ahead of NONE", -1, SlowPanes::new, x -> x.seen(4, 0, 0));
        Scene.changesNothing("19: BAD DAY ahead of NONE", -1, SlowPanes::new, x -> x.seen(0, 50, 0));
        Scene.changesNothing("19: BAD what ahead of NONE", -1, SlowPanes::new, x -> x.seen(0, 0, 2));
        Scene.changesNothing("19: BAD what -1 ahead of NONE", -1, SlowPanes::new, x -> x.seen(0, 0, -1));
        Scene.changesNothing("18: BAD, no DAY is left", -1, Scene::ended, x -> x.dark(3));
    }

    private static void buyTwice() {
        Scene.changesNothing("21: BAD LOOKER ahead of NONE", -1, SlowPanes::new, x -> x.buy(3, 1));
        Scene.changesNothing("21: BAD LOOKER -1 ahead of NONE", -1, SlowPanes::new, x -> x.buy(-1, 1));
        Scene.changesNothing("21: BAD n ahead of NONE", -1, SlowPanes::new, x -> x.buy(0, 21));
        Scene.changesNothing("21: BAD n 0 ahead of NONE", -1, SlowPanes::new, x -> x.buy(0, 0));
    }

    private static void bestTwice() {
        Scene.changesNothing("23: BAD LOOKER ahead of NONE", -1, Scene::six, x -> x.best(4, 3, 1));
        Scene.changesNothing("23: BAD LOOKER -1 ahead of NONE", -1, Scene::six, x -> x.best(4, -1, 1));
        Scene.changesNothing("23: BAD n ahead of NONE", -1, Scene::six, x -> x.best(4, 0, 21));
        Scene.changesNothing("23: BAD n 0 ahead of NONE", -1, Scene::six, x -> x.best(4, 0, 0));
    }

    /** BAD ahead of what the host refuses: sheet 2 is missing, sheet 1 of ints, sheet 0 has three bytes. */
    private static void viewsTwice() {
        for (int sheet = 0; sheet < 3; sheet++) {
            int asked = sheet;
            Scene.changesNothing("32: BAD PLACE first", -1, Scene::some, x -> x.views(asked, 9, 4, 0, 1));
            Scene.changesNothing("32: BAD PLACE -1 first", -1, Scene::some, x -> x.views(asked, 9, -1, 0, 1));
            Scene.changesNothing("32: BAD DAY first", -1, Scene::some, x -> x.views(asked, 9, 0, 50, 0));
            Scene.changesNothing("32: BAD DAY -1 first", -1, Scene::some, x -> x.views(asked, -1, 0, -1, 1));
            Scene.changesNothing("32: BAD n first", -1, Scene::some, x -> x.views(asked, -1, 0, 0, 51));
            Scene.changesNothing("32: BAD n -1 first", -1, Scene::some, x -> x.views(asked, -1, 0, 0, -1));
            Scene.changesNothing("32: beyond DAY 49 first", -1, Scene::some, x -> x.views(asked, 9, 0, 49, 2));
        }
        Scene.changesNothing("32: BAD SHEET, outside", -1, Scene::some, x -> x.views(4, -1, 0, 0, 1));
    }

    private static void viewsTwiceOfTheHost() {
        Scene.changesNothing("32: -11 ahead of -12", -11, Scene::some, x -> x.views(2, -1, 0, 0, 1));
        Scene.changesNothing("32: -11 ahead of -12, too many", -11, Scene::some, x -> x.views(2, 0, 0, 0, 50));
        Scene.changesNothing("32: -13 ahead of -12", -13, Scene::some, x -> x.views(1, -1, 0, 0, 1));
        Scene.changesNothing("32: -13 ahead of -12, too many", -13, Scene::some, x -> x.views(1, 0, 0, 0, 3));
        Scene.changesNothing("32: -13 ahead of -12, of none", -13, Scene::some, x -> x.views(3, 1, 0, 0, 0));
    }

    private static void sheetTwice() {
        Scene.changesNothing("33: BAD SHEET ahead of -14", -1, Scene::some, x -> x.sheet(4, 0, -1));
        Scene.changesNothing("33: BAD SHEET -1 ahead of -14", -1, Scene::some, x -> x.sheet(-1, 0, -1));
        Scene.changesNothing("33: BAD sort ahead of -14", -1, Scene::some, x -> x.sheet(0, 4, -1));
        Scene.changesNothing("33: BAD sort -2 ahead of -14", -1, Scene::some, x -> x.sheet(0, -2, -1));
        Scene.changesNothing("33: BAD SHEET, missing", -1, Scene::some, x -> x.sheet(4, -1, 0));
    }

    private static void putTwice() {
        Scene.changesNothing("34: BAD ahead of -12", -1, Scene::some, x -> x.put(4, -1, 0));
        Scene.changesNothing("34: -11 ahead of -12", -11, Scene::some, x -> x.put(2, -1, 0));
        Scene.changesNothing("34: -11 ahead of -12, above", -11, Scene::some, x -> x.put(2, MOST, 0));
    }

    private static void itemTwice() {
        Scene.changesNothing("35: BAD sort ahead of -11", -1, Scene::some, x -> x.item(2, 4, 0));
        Scene.changesNothing("35: BAD sort -1 ahead of -11 and -12", -1, Scene::some, x -> x.item(2, -1, -1));
        Scene.changesNothing("35: BAD sort ahead of -12", -1, Scene::some, x -> x.item(0, 4, 3));
        Scene.changesNothing("35: BAD SHEET ahead of -12", -1, Scene::some, x -> x.item(4, 0, -1));
        Scene.changesNothing("35: -11 ahead of -12", -11, Scene::some, x -> x.item(2, 0, -1));
        Scene.changesNothing("35: -11 ahead of -12, above", -11, Scene::some, x -> x.item(2, 3, 40));
        Scene.changesNothing("35: -13 ahead of -12", -13, Scene::some, x -> x.item(0, 1, 3));
        Scene.changesNothing("35: -13 ahead of -12, below", -13, Scene::some, x -> x.item(1, 0, -1));
        Scene.changesNothing("35: -13 ahead of -12, of none", -13, Scene::some, x -> x.item(3, 0, 0));
    }

    private static void takenTwice() {
        for (int as : new int[] {-1, 6, 9, 14}) {
            Scene.changesNothing("37: BAD as ahead of -11", -1, Scene::some, x -> x.taken(2, as));
            Scene.changesNothing("37: BAD as ahead of -13", -1, Scene::some, x -> x.taken(1, as));
            Scene.changesNothing("37: BAD SHELF, and as", -1, Scene::some, x -> x.taken(4, as));
        }
        SlowPanes x = Scene.some();
        x.drop(2);
        Check.due("37: -11 for a row, where a PANE is gone", x.taken(3, 10), -11);
        Check.due("37: -11 for another KIND, where a PANE is gone", x.taken(3, 1), -11);
        Check.due("37: BAD as, where a PANE is gone", x.taken(3, 6), -1);
    }

    private static void questionsChangeNothing() {
        Scene.changesNothing("5: a VIEW", 99, Scene::some, x -> x.viewOf(0, 1));
        Scene.changesNothing("8: SHOWN", 52, Scene::some, x -> x.paneOf(0, 3));
        Scene.changesNothing("9: a GLIMPSE", 41, Scene::some, x -> x.glimpse(0, 1));
        Scene.changesNothing("12: TODAY", 6, Scene::some, SlowPanes::today);
        Scene.changesNothing("13: no DAYS", 6, Scene::some, x -> x.days(0));
        Scene.changesNothing("13: no DAY is left", 50, Scene::ended, x -> x.days(50));
        Scene.changesNothing("29: a ROW", 55, Scene::some, x -> x.row(1, 1));
        Scene.changesNothing("31: THE READER", 2, Scene::some, x -> x.judge(0));
        Scene.changesNothing("32: none", 0, Scene::some, x -> x.views(0, 3, 0, 0, 0));
        Scene.changesNothing("35: an item", 120, Scene::some, x -> x.item(0, 0, 2));
        Scene.changesNothing("37: what a SHELF holds", 3, Scene::some, x -> x.taken(1, 10));
        Scene.changesNothing("38: an act that was the latest", 48, Scene::some, x -> x.act(0, 1, 7));
        Scene.changesNothing("39: THE TRACE", 30, Scene::some, x -> x.trace(1));
        Scene.changesNothing("40: how many", 9, Scene::some, x -> x.many(1));
    }

    private static void trialsChangeNothing() {
        Scene.changesNothing("18: DARK TILL", 18, Scene::some, x -> x.dark(2));
        Scene.changesNothing("19: SEEN", 1, Scene::some, x -> x.seen(0, 9, 1));
        Scene.changesNothing("20: WORTH", 1269, Scene::some, x -> x.worth(0, 0, 20));
        Scene.changesNothing("21: BUY", 2, Scene::some, x -> x.buy(2, 20));
        Scene.changesNothing("22: LET", 2, Scene::some, x -> x.let(0, 1, 20));
        Scene.changesNothing("23: CUT BEST", 2, Scene::some, x -> x.best(0, 0, 20));
        Scene.changesNothing("23: CUT BEST, six PANES", 2, Scene::six, x -> x.best(0, 0, 20));
        Scene.changesNothing("24: TURNED", 99937, Scene::some, x -> x.turned(0, 0, 20));
        Scene.changesNothing("25: what it will show", 59, Scene::some, x -> x.will(0, 7));
        Scene.changesNothing("20: WORTH, no DAY is left", 0, Scene::ended, x -> x.worth(0, 0, 20));
        Scene.changesNothing("21: BUY, no DAY is left", 0, Scene::ended, x -> x.buy(0, 20));
        Scene.changesNothing("22: LET, no DAY is left", 0, Scene::ended, x -> x.let(0, 0, 20));
        Scene.changesNothing("23: CUT BEST, no DAY is left", 1, Scene::ended, x -> x.best(0, 0, 20));
        Scene.changesNothing("24: TURNED, no DAY is left", 100000, Scene::ended, x -> x.turned(0, 0, 20));
    }
}
