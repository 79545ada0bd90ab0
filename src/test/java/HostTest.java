/** Promises 33 to 40: SHEETS, SHELVES, ACTS, THE TRACE. */
final class HostTest {
    private static final int LEAST = Integer.MIN_VALUE, MOST = Integer.MAX_VALUE;

    private HostTest() {
    }

    static void run() {
        sheet();
        put();
        item();
        shelf();
        takenPanes();
        takenRows();
        actsOfPane();
        actsOfThick();
        actsOfDouble();
        actsOfDark();
        actsOfRippled();
        actsOfMirror();
        actsWrap();
        partedBy0();
        noAct();
        trace();
        many();
    }

    private static void sheet() {
        SlowPanes x = new SlowPanes();
        int[][] bad = {{-1, 0, 1}, {4, 0, 1}, {0, -2, 1}, {0, 4, 1}, {0, 0, 41}, {0, 3, MOST}, {LEAST, 0, 1},
            {0, MOST, 1}, {4, 0, -1}, {0, 4, -1}};
        for (int[] b : bad) {
            Check.due("33: BAD", x.sheet(b[0], b[1], b[2]), -1);
        }
        Check.due("33: below 0", x.sheet(0, 0, -1), -14);
        Check.due("33: far below 0", x.sheet(0, 3, LEAST), -14);
        Check.due("33: none came", x.item(0, 0, 0), -11);
        for (int sort = 0; sort < 4; sort++) {
            Check.due("33: forty", x.sheet(sort, sort, 40), 1);
            Check.due("33: the last is 0", x.item(sort, sort, 39), 0);
            Check.due("33: no more", x.item(sort, sort, 40), -12);
        }
        x.put(2, 1, 5);
        Check.due("33: refused", x.sheet(2, 2, -1), -14);
        Check.due("33: refused again", x.sheet(2, 2, 41), -1);
        Check.due("33: as it was", x.item(2, 2, 1), 5);
        Check.due("33: anew", x.sheet(2, 2, 2), 1);
        Check.due("33: all 0", x.item(2, 2, 1), 0);
        Check.due("33: of none", x.sheet(2, 0, 0), 1);
        Check.due("33: it has none", x.item(2, 0, 0), -12);
        Check.due("33: missing, n counts nothing", x.sheet(2, -1, -5), 1);
        Check.due("33: is missing", x.item(2, 0, 0), -11);
        Check.due("33: missing, n far off", x.sheet(2, -1, 99), 1);
        Check.due("33: no such to be missing", x.sheet(4, -1, 0), -1);
    }

    private static void put() {
        SlowPanes x = new SlowPanes();
        Check.due("34: no sheet", x.put(-1, 0, 1), -1);
        Check.due("34: no sheet 4", x.put(4, 0, 1), -1);
        Check.due("34: missing", x.put(0, 0, 1), -11);
        Check.due("34: missing ahead of outside", x.put(0, -1, 1), -11);
        int[] values = {127, 128, 255, 256, -129, 32767, 32768, 65535, -32769, MOST, LEAST, -1, 0};
        for (int sort = 0; sort < 4; sort++) {
            x.sheet(sort, sort, 2);
            for (int v : values) {
                Check.due("34: put", x.put(sort, 1, v), 1);
                int wanted = sort == 0 ? (byte) v : sort == 1 ? (short) v : v;
                Check.due("34: " + v + " in sort " + sort, x.item(sort, sort, 1), wanted);
                Check.due("34: the other item", x.item(sort, sort, 0), 0);
            }
        }
        x.put(0, 0, 7);
        Check.due("34: outside", x.put(0, 2, 1), -12);
        Check.due("34: below", x.put(0, -1, 1), -12);
        Check.due("34: far off", x.put(0, MOST, 1), -12);
        Check.due("34: far below", x.put(0, LEAST, 1), -12);
        Check.due("34: as it was", x.item(0, 0, 0), 7);
    }

    private static void item() {
        SlowPanes x = new SlowPanes();
        Check.due("35: no sheet", x.item(-1, 0, 0), -1);
        Check.due("35: no sheet 4", x.item(4, 0, 0), -1);
        Check.due("35: no sort", x.item(0, -1, 0), -1);
        Check.due("35: no sort 4", x.item(0, 4, 0), -1);
        Check.due("35: missing", x.item(0, 3, 99), -11);
        for (int sort = 0; sort < 4; sort++) {
            x.sheet(0, sort, 3);
            x.put(0, 2, -12);
            for (int as = 0; as < 4; as++) {
                Check.due("35: " + sort + " taken for " + as, x.item(0, as, 2), as == sort ? -12 : -13);
                Check.due("35: outside, " + sort + " for " + as, x.item(0, as, 3), as == sort ? -12 : -13);
            }
            Check.due("35: below", x.item(0, sort, -1), -12);
            Check.due("35: far off", x.item(0, sort, MOST), -12);
        }
    }

    private static void shelf() {
        SlowPanes x = new SlowPanes();
        x.pane(0, 3);
        x.sheet(1, 2, 7);
        int[][] bad = {{-1, 2, 0}, {4, 2, 0}, {0, -1, 0}, {0, 3, 0}, {0, 0, 1}, {0, 0, -1}, {0, 1, 4}, {0, 1, -1},
            {MOST, 0, 0}, {0, LEAST, 0}, {0, 0, MOST}, {0, 1, LEAST}};
        for (int[] b : bad) {
            Check.due("36: BAD", x.shelf(b[0], b[1], b[2]), -1);
        }
        Check.due("36: nothing", x.taken(0, 0), -11);
        Check.due("36: a pane", x.shelf(0, 0, 0), 1);
        Check.due("36: it is there", x.taken(0, 0), 0);
        Check.due("36: BAD", x.shelf(0, 1, 4), -1);
        Check.due("36: it is there yet", x.taken(0, 0), 0);
        Check.due("36: a row", x.shelf(0, 1, 1), 1);
        Check.due("36: the pane isn't there", x.taken(0, 0), -13);
        Check.due("36: the row is", x.taken(0, 12), 7);
        Check.due("36: a pane again", x.shelf(0, 0, 0), 1);
        Check.due("36: the row isn't there", x.taken(0, 12), -13);
        Check.due("36: nothing, n counts nothing", x.shelf(0, 2, 99), 1);
        Check.due("36: nothing there", x.taken(0, 12), -11);
        x.shelf(3, 1, 1);
        Check.due("36: a missing sheet", x.shelf(3, 1, 2), 1);
        Check.due("36: is nothing", x.taken(3, 12), -11);
        Check.due("36: no act of nothing", x.act(3, 0, 5), 0);
    }

    private static void takenPanes() {
        SlowPanes x = new SlowPanes();
        boolean[][] under = {
            {true, false, false, false, false, false}, {true, true, false, false, false, false},
            {true, true, true, false, false, false}, {true, false, false, true, false, false},
            {true, false, false, true, true, false}, {true, false, false, false, false, true}};
        for (int kind = 0; kind < 6; kind++) {
            x.pane(kind, 1);
            x.shelf(0, 0, kind);
            for (int as = 0; as < 6; as++) {
                Check.due("37: kind " + kind + " for " + as, x.taken(0, as), under[kind][as] ? kind : -13);
            }
            for (int as = 10; as < 14; as++) {
                Check.due("37: a pane for a row", x.taken(0, as), -13);
            }
        }
        int[][] bad = {{-1, 0}, {4, 0}, {0, -1}, {0, 6}, {0, 9}, {0, 14}, {0, LEAST}, {0, MOST}, {1, 7}};
        for (int[] b : bad) {
            Check.due("37: BAD", x.taken(b[0], b[1]), -1);
        }
        Check.due("37: nothing", x.taken(1, 0), -11);
        Check.due("37: nothing for a row", x.taken(1, 13), -11);
        x.drop(0);
        Check.due("37: number 5 is gone", x.taken(0, 0), -11);
        x.shelf(0, 0, 4);
        x.shelf(1, 0, 0);
        Check.due("37: the first is thick now", x.taken(1, 1), 0);
        x.drop(0);
        Check.due("37: by its number, the next one", x.taken(1, 2), 0);
        Check.due("37: no number 4", x.taken(0, 0), -11);
        x.pane(1, 1);
        Check.due("37: there is a number 4 again", x.taken(0, 1), 4);
        x.cast(4, 5);
        Check.due("37: of another kind now", x.taken(0, 1), -13);
    }

    private static void takenRows() {
        SlowPanes x = new SlowPanes();
        for (int sort = 0; sort < 4; sort++) {
            x.sheet(1, sort, sort * 13);
            x.shelf(2, 1, 1);
            for (int as = 10; as < 14; as++) {
                Check.due("37: sort " + sort + " for " + as, x.taken(2, as), as - 10 == sort ? sort * 13 : -13);
            }
            for (int as = 0; as < 6; as++) {
                Check.due("37: a row for a thing", x.taken(2, as), -13);
            }
        }
        x.sheet(1, 0, 4);
        Check.due("37: the shelf holds the row that it was", x.taken(2, 13), 39);
        x.sheet(1, -1, 0);
        Check.due("37: also if the sheet is missing", x.taken(2, 13), 39);
    }

    /** An object whose pane number 1 is of a kind and has a glimpses; it is on shelf 0. */
    private static SlowPanes thing(int kind, int a) {
        SlowPanes x = new SlowPanes();
        x.pane(0, 16);
        x.pane(kind, a);
        x.shelf(0, 0, 1);
        return x;
    }

    private static void acts(SlowPanes x, int act, int number, int answer, int... bodies) {
        Check.due("38: act " + act, x.act(0, act, number), answer);
        Check.due("39: how many bodies", x.many(4), bodies.length);
        for (int i = 0; i < bodies.length; i++) {
            Check.due("39: body " + i, x.trace(i), bodies[i]);
        }
        Check.due("39: no more", x.trace(bodies.length), -3);
    }

    private static void actsOfPane() {
        SlowPanes x = thing(0, 4);
        acts(x, 0, 7, 8, 10);
        acts(x, 1, 7, 16, 11, 10);
        acts(x, 2, 8, 2, 12);
        acts(x, 2, -8, -2, 12);
        acts(x, 3, 7, 16 ^ 4, 13, 11, 10);
    }

    private static void actsOfThick() {
        SlowPanes x = thing(1, 4);
        acts(x, 0, 7, 8, 10);
        acts(x, 1, 7, 12, 20, 11, 10);
        acts(x, 2, 8, 2, 12);
        acts(x, 3, 7, 12 ^ 4, 13, 20, 11, 10);
    }

    private static void actsOfDouble() {
        SlowPanes x = thing(2, 4);
        acts(x, 0, 7, 7, 51, 10);
        acts(x, 1, 7, 10, 20, 11, 51, 10);
        acts(x, 2, 7, 3 ^ 1, 50, 12);
        acts(x, 3, 7, 10 ^ 4, 13, 20, 11, 51, 10);
    }

    private static void actsOfDark() {
        SlowPanes x = thing(3, 2);
        acts(x, 0, 7, 24, 30, 10);
        acts(x, 1, 7, 48, 11, 30, 10);
        acts(x, 2, 7, 7, 12);
        acts(x, 3, 7, (48 ^ 2) + 1, 31, 13, 11, 30, 10, 12);
    }

    private static void actsOfRippled() {
        SlowPanes x = thing(4, 2);
        acts(x, 0, 7, -24, 40, 30, 10);
        acts(x, 1, 7, -48 - 6, 41, 11, 40, 30, 10, 40, 30, 10);
        acts(x, 2, 7, 7, 12);
        acts(x, 3, 7, (-54 ^ 2) + 1, 31, 13, 41, 11, 40, 30, 10, 40, 30, 10, 12);
    }

    private static void actsOfMirror() {
        SlowPanes x = thing(5, 4);
        acts(x, 0, 7, 8, 10);
        acts(x, 1, 7, 16, 11, 10);
        acts(x, 2, 7, 2 + 5, 61, 12, 10);
        acts(x, 3, 7, (16 ^ 4) * 2, 60, 13, 11, 10);
    }

    private static void actsWrap() {
        SlowPanes x = thing(0, 2);
        acts(x, 0, MOST, LEAST, 10);
        acts(x, 1, MOST, 0, 11, 10);
        SlowPanes y = new SlowPanes();
        y.pane(0, 1);
        y.pane(0, 1);
        y.pane(0, 1);
        y.shelf(0, 0, 2);
        acts(y, 2, LEAST, LEAST, 12);
        acts(y, 2, 5, -5, 12);
        y.cast(2, 2);
        acts(y, 2, MOST, -(MOST + 2) ^ 1, 50, 12);
        y.cast(2, 3);
        acts(y, 0, MOST, (MOST + 2) * 3, 30, 10);
    }

    private static void partedBy0() {
        SlowPanes x = thing(0, 1);
        acts(x, 2, 7, -15, 12);
        acts(x, 0, -16, -15, 10);
        x.cast(1, 2);
        acts(x, 2, 7, -15, 50, 12);
        x.cast(1, 3);
        acts(x, 3, 7, -15, 31, 13, 11, 30, 10, 12);
        x.cast(1, 4);
        acts(x, 3, 7, -15, 31, 13, 41, 11, 40, 30, 10, 40, 30, 10, 12);
        x.cast(1, 5);
        acts(x, 2, 7, -15, 61, 12);
        acts(x, 3, 7, (16 ^ 1) * 2, 60, 13, 11, 10);
        acts(x, 1, 7, 16, 11, 10);
    }

    private static void noAct() {
        SlowPanes x = thing(0, 4);
        x.sheet(0, 0, 4);
        x.shelf(1, 1, 0);
        x.shelf(2, 0, 1);
        int[][] none = {{-1, 0}, {4, 0}, {0, -1}, {0, 4}, {1, 0}, {3, 0}, {MOST, 0}, {0, LEAST}};
        for (int[] n : none) {
            x.act(0, 1, 7);
            Check.due("38: a trace", x.many(4), 2);
            Check.due("38: none", x.act(n[0], n[1], 7), 0);
            Check.due("38: no trace", x.many(4), 0);
            Check.due("39: no trace", x.trace(0), -3);
        }
        x.act(0, 1, 7);
        x.drop(1);
        Check.due("39: the trace stays", x.many(4), 2);
        Check.due("38: no such pane any more", x.act(2, 0, 7), 0);
        Check.due("38: no trace of it", x.many(4), 0);
    }

    private static void trace() {
        SlowPanes x = thing(1, 4);
        Check.due("39: none", x.trace(0), -3);
        x.act(0, 1, 7);
        Check.due("39: the first", x.trace(0), 20);
        Check.due("39: the last", x.trace(2), 10);
        Check.due("39: behind it", x.trace(3), -3);
        Check.due("39: ahead", x.trace(-1), -3);
        Check.due("39: far off", x.trace(MOST), -3);
        Check.due("39: far below", x.trace(LEAST), -3);
        x.act(0, 0, 7);
        Check.due("39: of the latest", x.trace(0), 10);
        Check.due("39: no more of that before", x.trace(1), -3);
    }

    private static void many() {
        SlowPanes x = new SlowPanes();
        x.pane(0, 3);
        x.pane(0, 4);
        x.hang(0, 1);
        x.hang(1, 1);
        x.days(2);
        x.hang(0, 4);
        x.days(1);
        x.feed(5, 7);
        x.prove(0, 9);
        x.shelf(0, 0, 1);
        x.act(0, 1, 1);
        Check.due("40: panes", x.many(0), 2);
        Check.due("40: lit", x.many(1), 5);
        Check.due("40: rows", x.many(2), 9);
        Check.due("40: tape", x.many(3), 7);
        Check.due("40: trace", x.many(4), 2);
        Check.due("40: no what 5", x.many(5), -1);
        Check.due("40: no what -1", x.many(-1), -1);
        Check.due("40: nothing like it", x.many(LEAST), -1);
        x.drop(1);
        Check.due("40: lit in what is left", x.many(1), 2);
    }
}
