/** The sentences of part 3 of 'Terms', and of the promises on it, that name a boundary; and what is kept. */
final class HostEdgesTest {
    private static final int LEAST = Integer.MIN_VALUE, MOST = Integer.MAX_VALUE;
    private static final int SHOWS = 0, MOVES = 1, SHARES = 2, TELLS = 3;

    private HostEdgesTest() {
    }

    static void run() {
        rowsByDaysLeft();
        rowsComeAnew();
        rowsOfTheDark();
        anyRowCanBeAltered();
        readOnEachDay();
        readBeyondTheLastDay();
        readWithoutRows();
        heldToViews();
        itemsAreNarrowed();
        sheetsOfEachLength();
        sheetsAtFirst();
        aSheetBecomesAnother();
        shelvesAtFirst();
        aShelfOfANumber();
        aShelfAfterAQuarry();
        aShelfOfARow();
        aShelfOfAMissingSheet();
        shelvesAreApart();
        actsWrap();
        sharesAreCutTowards0();
        theTraceOfTheLatest();
        theLongestTrace();
        keptEmpty();
        keptFull();
        keptInTheEnd();
        keptTwice();
    }

    /** A PANE of one glimpse in PLACE 1, whose VIEWS are DAY and 1. */
    private static SlowPanes one() {
        SlowPanes x = new SlowPanes();
        x.pane(0, 1);
        x.hang(0, 1);
        for (int day = 0; day < 50; day++) {
            x.view(1, day, day + 1);
        }
        return x;
    }

    private static void rowsByDaysLeft() {
        for (int today = 28; today <= 50; today++) {
            SlowPanes x = one();
            x.days(today);
            for (int n = 1; n <= 20; n++) {
                int count = Math.min(n, 50 - today);
                Check.due("28: as far as there are DAYS", x.prove(0, n), count);
                Check.due("28: so many", x.many(2), count);
                Check.due("28: no more of them", x.row(count, 0), -99);
                if (count > 0) {
                    Check.due("28: TODAY first", x.row(0, 0), today);
                    Check.due("28: the last DAY", x.row(count - 1, 0), today + count - 1);
                    Check.due("28: SHOWN then", x.row(count - 1, 1), today + count - 1);
                    Check.due("28: the GLIMPSE then", x.row(count - 1, 2), 10 * (today + count - 2) + 1);
                }
            }
        }
    }

    private static void rowsComeAnew() {
        SlowPanes x = one();
        x.prove(0, 20);
        x.alterRow(0, 0, 5);
        x.prove(0, 1);
        Check.due("28: one ROW", x.many(2), 1);
        Check.due("28: the old ones are gone", x.row(1, 0), -99);
        Check.due("28: what was altered is gone", x.row(0, 0), 0);
        x.days(50);
        Check.due("28: none in the end", x.prove(0, 20), 0);
        Check.due("28: no ROWS then", x.many(2), 0);
        Check.due("29: there is none", x.row(0, 0), -99);
        Check.due("30: there is none", x.alterRow(0, 0, 1), -99);
    }

    private static void rowsOfTheDark() {
        SlowPanes x = new SlowPanes();
        for (int kind = 0; kind < 6; kind++) {
            x.pane(kind, 1);
            x.prove(kind, 20);
            for (int i = 0; i < 20; i++) {
                Check.due("28: the DAY", x.row(i, 0), i);
                Check.due("28: SHOWN is 0", x.row(i, 1), 0);
                Check.due("28: -9 if it is dark", x.row(i, 2), -9);
            }
        }
    }

    private static void anyRowCanBeAltered() {
        SlowPanes x = one();
        x.prove(0, 20);
        for (int i = 0; i < 20; i++) {
            for (int what = 0; what < 3; what++) {
                int was = x.row(i, what);
                int v = what == 0 ? LEAST + i : what == 1 ? MOST - i : -i;
                Check.due("30: what it was", x.alterRow(i, what, v), was);
                Check.due("30: what it is", x.row(i, what), v);
            }
        }
        for (int i = 0; i < 20; i++) {
            Check.due("30: each DAY by itself", x.row(i, 0), LEAST + i);
            Check.due("30: each SHOWN by itself", x.row(i, 1), MOST - i);
            Check.due("30: each GLIMPSE by itself", x.row(i, 2), -i);
        }
    }

    private static void readOnEachDay() {
        SlowPanes x = one();
        x.prove(0, 20);
        Check.due("31: all is right", x.judge(0), 0);
        for (int i = 0; i < 20; i++) {
            for (int what = 0; what < 3; what++) {
                int was = x.row(i, what);
                for (int off : new int[] {-1, 1}) {
                    x.alterRow(i, what, was + off);
                    Check.due("31: the first that isn't, and 1 more", x.judge(0), i + 1);
                }
                x.alterRow(i, what, was);
            }
        }
        Check.due("31: all is right again", x.judge(0), 0);
        x.alterRow(19, 1, -1);
        x.alterRow(7, 2, -1);
        Check.due("31: the first of two", x.judge(0), 8);
    }

    /** ROWS of four DAYS, as if there were such beyond DAY 49, read from DAY 46 on until no DAY is left. */
    private static void readBeyondTheLastDay() {
        SlowPanes x = one();
        x.hang(0, 4);
        x.prove(0, 4);
        x.days(46);
        for (int today = 46; today <= 50; today++) {
            for (int i = 0; i < 4; i++) {
                x.alterRow(i, 0, today + i);
                x.alterRow(i, 1, 0);
                x.alterRow(i, 2, -9);
            }
            Check.due("31: ROWS beyond DAY 49 are wrong, TODAY " + today, x.judge(0), today == 46 ? 0 : 51 - today);
            x.days(1);
        }
    }

    private static void readWithoutRows() {
        SlowPanes x = one();
        Check.due("31: there are none", x.judge(0), 0);
        x.prove(0, 3);
        x.days(1);
        Check.due("31: there are some", x.judge(0), 1);
        x.quarry();
        x.pane(0, 1);
        Check.due("31: there are none any more", x.judge(0), 0);
        x.days(50);
        Check.due("31: none in the end", x.judge(0), 0);
    }

    private static void heldToViews() {
        for (int v = -128; v < 128; v++) {
            SlowPanes x = new SlowPanes();
            x.sheet(2, 0, 1);
            x.put(2, 0, v);
            x.view(3, 49, 50);
            Check.due("32: one", x.views(2, 0, 3, 49, 1), 1);
            Check.due("32: held to 0 to 99", x.viewOf(3, 49), Math.max(0, Math.min(99, v)));
        }
    }

    private static void itemsAreNarrowed() {
        int[] values = {LEAST, LEAST + 1, -65537, -65536, -32769, -32768, -257, -256, -129, -128, -1, 0, 1, 127, 128,
            255, 256, 32767, 32768, 65535, 65536, MOST - 1, MOST};
        int[] bytes = {0, 1, -1, 0, -1, 0, -1, 0, 127, -128, -1, 0, 1, 127, -128, -1, 0, -1, 0, -1, 0, -2, -1};
        int[] shorts = {0, 1, -1, 0, 32767, -32768, -257, -256, -129, -128, -1, 0, 1, 127, 128, 255, 256, 32767,
            -32768, -1, 0, -2, -1};
        SlowPanes x = new SlowPanes();
        for (int sort = 0; sort < 4; sort++) {
            x.sheet(sort, sort, 1);
            for (int i = 0; i < values.length; i++) {
                int wanted = sort == 0 ? bytes[i] : sort == 1 ? shorts[i] : values[i];
                Check.due("34: put", x.put(sort, 0, values[i]), 1);
                Check.due("34: " + values[i] + " narrowed to sort " + sort, x.item(sort, sort, 0), wanted);
            }
        }
    }

    private static void sheetsOfEachLength() {
        for (int n = 0; n <= 40; n++) {
            SlowPanes x = new SlowPanes();
            Check.due("33: n of them", x.sheet(3, n % 4, n), 1);
            for (int i = 0; i < n; i++) {
                Check.due("33: all 0", x.item(3, n % 4, i), 0);
            }
            Check.due("33: no more", x.item(3, n % 4, n), -12);
            x.shelf(0, 1, 3);
            Check.due("37: how many items", x.taken(0, 10 + n % 4), n);
        }
    }

    private static void sheetsAtFirst() {
        SlowPanes x = new SlowPanes();
        for (int sheet = 0; sheet < 4; sheet++) {
            for (int sort = 0; sort < 4; sort++) {
                Check.due("33: missing at first", x.item(sheet, sort, 0), -11);
            }
            Check.due("33: missing once more", x.sheet(sheet, -1, 0), 1);
            Check.due("33: missing still", x.put(sheet, 0, 0), -11);
        }
    }

    private static void aSheetBecomesAnother() {
        SlowPanes x = new SlowPanes();
        x.sheet(0, 0, 40);
        x.put(0, 39, 5);
        x.sheet(0, 0, 40);
        Check.due("33: all 0 again", x.item(0, 0, 39), 0);
        x.sheet(0, 3, 1);
        Check.due("33: of another sort", x.item(0, 0, 0), -13);
        Check.due("33: of another length", x.item(0, 3, 1), -12);
        x.sheet(0, -1, 1);
        Check.due("33: missing", x.item(0, 3, 0), -11);
        x.sheet(0, 2, 1);
        Check.due("33: there again", x.item(0, 2, 0), 0);
    }

    private static void shelvesAtFirst() {
        SlowPanes x = new SlowPanes();
        x.pane(0, 1);
        x.sheet(0, 0, 1);
        for (int shelf = 0; shelf < 4; shelf++) {
            Check.due("36: nothing at first", x.taken(shelf, 0), -11);
            Check.due("36: nor a row", x.taken(shelf, 10), -11);
            Check.due("36: nor does it act", x.act(shelf, SHOWS, 5), 0);
        }
    }

    private static void aShelfOfANumber() {
        SlowPanes x = new SlowPanes();
        for (int i = 0; i < 6; i++) {
            x.pane(i, 2);
        }
        x.shelf(0, 0, 5);
        x.shelf(1, 0, 0);
        x.drop(2);
        Check.due("36: nothing, there is no number 5", x.taken(0, 0), -11);
        Check.due("36: nor does it act", x.act(0, SHOWS, 5), 0);
        x.lay(0, 1);
        Check.due("36: number 0 is the same", x.taken(1, 0), 0);
        x.lay(1, 0);
        Check.due("36: number 0 is another one", x.taken(1, 3), 0);
        while (x.many(0) > 0) {
            Check.due("36: by its number", x.taken(1, 0), 0);
            x.drop(0);
        }
        Check.due("36: nothing, there are none", x.taken(1, 0), -11);
    }

    private static void aShelfAfterAQuarry() {
        SlowPanes x = new SlowPanes();
        x.pane(1, 2);
        x.pane(2, 2);
        x.shelf(0, 0, 1);
        Check.due("36: double", x.taken(0, 2), 1);
        x.keep();
        Check.quarry(x, "mirror 3;");
        Check.due("36: no number 1 in the quarry", x.taken(0, 0), -11);
        Check.quarry(x, "dark 3;rippled 4;");
        Check.due("36: by its number, another one", x.taken(0, 4), 1);
        Check.quarry(x, "dark 99;");
        Check.due("36: a FAULT changes nothing", x.taken(0, 4), 1);
        x.again();
        Check.due("36: by its number, the one that was kept", x.taken(0, 2), 1);
    }

    private static void aShelfOfARow() {
        SlowPanes x = new SlowPanes();
        x.sheet(1, 1, 40);
        x.sheet(2, 2, 0);
        x.shelf(0, 1, 1);
        x.shelf(1, 1, 2);
        Check.due("37: forty", x.taken(0, 11), 40);
        Check.due("37: a row of none isn't nothing", x.taken(1, 12), 0);
        Check.due("37: of another sort", x.taken(1, 13), -13);
        Check.due("37: no thing", x.taken(1, 0), -13);
        Check.due("38: a row doesn't act", x.act(0, SHOWS, 5), 0);
        Check.due("38: nor does one of none", x.act(1, SHOWS, 5), 0);
    }

    private static void aShelfOfAMissingSheet() {
        SlowPanes x = new SlowPanes();
        x.pane(0, 1);
        for (int sheet = 0; sheet < 4; sheet++) {
            x.shelf(sheet, 0, 0);
            Check.due("36: missing", x.shelf(sheet, 1, sheet), 1);
            Check.due("36: it is nothing", x.taken(sheet, 0), -11);
            x.sheet(sheet, 0, 3);
            Check.due("36: nothing also when the SHEET is there", x.taken(sheet, 10), -11);
        }
    }

    private static void shelvesAreApart() {
        SlowPanes x = new SlowPanes();
        for (int i = 0; i < 4; i++) {
            x.pane(0, 2);
            x.shelf(i, 0, i);
        }
        for (int i = 0; i < 4; i++) {
            Check.due("36: each by itself", x.taken(i, 0), i);
        }
        x.shelf(0, 2, 0);
        x.sheet(3, 3, 9);
        x.shelf(3, 1, 3);
        Check.due("36: nothing", x.taken(0, 0), -11);
        Check.due("36: the next one stays", x.taken(1, 0), 1);
        Check.due("36: the one behind stays", x.taken(2, 0), 2);
        Check.due("36: a row", x.taken(3, 13), 9);
    }

    /** Each act of each KIND with numbers that wrap; acted() tells what comes out without going body by body. */
    private static void actsWrap() {
        int[][] numbers = {{0, 1}, {0, 16}, {1, 2}, {2, 1}, {3, 1}, {5, 16}, {5, 4}};
        int[] values = {LEAST, LEAST + 1, LEAST / 2, LEAST / 3, -7, -2, -1, 0, 1, 2, 7, MOST / 3, MOST / 2 + 1,
            MOST - 2, MOST - 1, MOST};
        for (int[] number : numbers) {
            for (int kind = 0; kind < 6; kind++) {
                SlowPanes x = thing(kind, number[0], number[1]);
                for (int act = 0; act < 4; act++) {
                    for (int v : values) {
                        int wanted = acted(kind, act, v, number[0], number[1]);
                        Check.due("38: kind " + kind + ", act " + act + " of " + v, x.act(0, act, v), wanted);
                    }
                }
            }
        }
    }

    private static SlowPanes thing(int kind, int n, int a) {
        SlowPanes x = new SlowPanes();
        for (int i = 0; i <= n; i++) {
            x.pane(kind, a);
        }
        x.shelf(0, 0, n);
        return x;
    }

    private static int acted(int kind, int act, int x, int n, int a) {
        int[] shows = {x + n, x + n, x, 3 * (x + n), -3 * (x + n), x + n};
        int[] moves = {2 * (x + n), 2 * (x + n) - a, 2 * x - a, 6 * (x + n), -6 * (x + n) - 6 * n, 2 * (x + n)};
        int parted = x / (a - n);
        int[] shares = {parted, parted, (x + 2) / (a - n) ^ 1, parted, parted, parted + a + n};
        int[] more = {0, 0, 0, n / (a - n), n / (a - n), moves[5] ^ a};
        switch (act) {
            case SHOWS: return shows[kind];
            case MOVES: return moves[kind];
            case SHARES: return shares[kind];
            default: return (moves[kind] ^ a) + more[kind];
        }
    }

    private static void sharesAreCutTowards0() {
        SlowPanes more = thing(0, 0, 4);
        SlowPanes less = thing(0, 5, 1);
        int[] values = {-9, -8, -7, -5, -4, -3, -1, 0, 1, 3, 4, 5, 7, 8, 9};
        int[] wanted = {-2, -2, -1, -1, -1, 0, 0, 0, 0, 0, 1, 1, 1, 2, 2};
        for (int i = 0; i < values.length; i++) {
            Check.due("38: " + values[i] + " by 4", more.act(0, SHARES, values[i]), wanted[i]);
            Check.due("38: " + values[i] + " by -4", less.act(0, SHARES, values[i]), -wanted[i]);
        }
        Check.due("38: the least by -1", thing(0, 2, 1).act(0, SHARES, LEAST), LEAST);
    }

    private static void theTraceOfTheLatest() {
        SlowPanes x = thing(4, 1, 2);
        Check.due("39: at first", x.trace(0), -3);
        x.act(0, TELLS, 5);
        x.act(0, SHARES, 5);
        Check.due("39: of the latest alone", x.many(4), 1);
        Check.due("39: its body", x.trace(0), 12);
        Check.due("39: no more", x.trace(1), -3);
        x.act(0, 4, 5);
        Check.due("39: no TRACE then", x.trace(0), -3);
        Check.due("39: none", x.many(4), 0);
        x.act(0, SHOWS, 5);
        x.days(3);
        x.turn(1);
        Check.due("39: other calls leave it", x.many(4), 3);
    }

    /** An act has eleven bodies at most: the 30 that are kept are never reached. */
    private static void theLongestTrace() {
        SlowPanes x = thing(4, 1, 3);
        x.act(0, TELLS, 0);
        int[] bodies = {31, 13, 41, 11, 40, 30, 10, 40, 30, 10, 12};
        Check.due("39: eleven", x.many(4), 11);
        for (int i = 0; i < 11; i++) {
            Check.due("39: left first, as they began", x.trace(i), bodies[i]);
        }
        Check.due("39: none behind the last", x.trace(11), -3);
        Check.due("39: nor ahead of the first", x.trace(-1), -3);
    }

    private static void keptEmpty() {
        SlowPanes x = new SlowPanes();
        Check.due("41: a new one", x.keep(), 1);
        Check.quarry(x, "pane 3 at 1;dark 2;view 1 from 0:5;love 0 9 9 9 9;today 50;");
        x.seed(6);
        Check.due("42: no PANES", x.again(), 0);
        Check.due("42: none", x.many(0), 0);
        Check.due("42: VIEW 0", x.viewOf(1, 0), 0);
        Check.due("42: LOVE 1", x.love(0, 0, 1), 1);
        Check.due("42: DAY 0", x.today(), 0);
        Check.due("42: z 1", x.seed(1), 1);
        Check.due("42: the first PANE comes", x.pane(0, 1), 0);
    }

    private static void keptFull() {
        SlowPanes x = new SlowPanes();
        for (int i = 0; i < 6; i++) {
            x.pane(i, 16);
            x.hang(i, 3);
        }
        x.view(3, 49, 99);
        x.love(2, 3, 9);
        x.seed(LEAST);
        x.days(16);
        x.keep();
        for (int i = 6; i > 0; i--) {
            x.drop(0);
        }
        x.pane(0, 1);
        x.seed(MOST);
        Check.due("42: six PANES", x.again(), 6);
        Check.due("42: full", x.pane(0, 1), -2);
        for (int i = 0; i < 6; i++) {
            Check.due("42: KIND", x.paneOf(i, 0), i);
            Check.due("42: sixteen", x.paneOf(i, 1), 16);
            Check.due("42: PLACE", x.paneOf(i, 2), 3);
        }
        Check.due("42: the last GLIMPSE", x.glimpse(0, 15), 3);
        Check.due("42: the last VIEW", x.viewOf(3, 49), 99);
        Check.due("42: the last LOVE", x.love(2, 3, 0), 9);
        Check.due("42: z", x.seed(0), LEAST);
    }

    private static void keptInTheEnd() {
        SlowPanes x = new SlowPanes();
        x.pane(0, 1);
        x.days(50);
        x.keep();
        Check.quarry(x, "");
        Check.due("42: one PANE", x.again(), 1);
        Check.due("42: TODAY is 50", x.today(), 50);
        Check.due("42: no DAY is left", x.days(1), 50);
    }

    private static void keptTwice() {
        SlowPanes x = new SlowPanes();
        x.view(0, 0, 1);
        x.keep();
        x.view(0, 0, 2);
        x.keep();
        x.view(0, 0, 3);
        for (int i = 0; i < 4; i++) {
            Check.due("42: no PANES", x.again(), 0);
            Check.due("42: the latest, which stays", x.viewOf(0, 0), 2);
            x.view(0, 0, 4 + i);
        }
    }
}
