/**
 * Each number that a call takes: the least and the greatest one that is taken, by their answers, and the first one
 * on either side (and those far off), which are refused and change nothing. What Scene.some() holds stands there.
 */
final class RangeTest {
    private static final int LEAST = Integer.MIN_VALUE, MOST = Integer.MAX_VALUE;

    private RangeTest() {
    }

    static void run() {
        feed();
        view();
        viewOf();
        love();
        pane();
        paneOf();
        glimpse();
        hang();
        cast();
        days();
        panesOfGlass();
        cutBehind();
        panesOfTrials();
        seen();
        lookers();
        trialLengths();
        will();
        draw();
        row();
        alterRow();
        views();
        viewsFromOn();
        viewsToTheLastDay();
        sheet();
        put();
        item();
        shelf();
        taken();
        trace();
        many();
    }

    private static void feed() {
        Scene.range("2: n, 1 to 8", 1, 8, 8, 15, (x, v) -> x.feed(0x2020202020202020L, v));
    }

    private static void view() {
        Scene.range("4: PLACE", 0, 0, 3, 9, (x, v) -> x.view(v, 47, 11));
        Scene.range("4: DAY", 0, 5, 49, 0, (x, v) -> x.view(0, v, 11));
        Scene.range("4: VIEW", 0, 47, 99, 47, (x, v) -> x.view(1, 3, v));
        Scene.range("4: VIEW, as it is then", 0, 0, 99, 99,
            (x, v) -> x.view(1, 3, v) < 0 ? -1 : x.viewOf(1, 3));
    }

    private static void viewOf() {
        Scene.range("5: PLACE", 0, 0, 3, 9, (x, v) -> x.viewOf(v, 47));
        Scene.range("5: DAY", 0, 5, 49, 0, (x, v) -> x.viewOf(0, v));
        Scene.range("5: DAY of the last PLACE", 0, 0, 49, 7, (x, v) -> x.viewOf(3, v));
    }

    private static void love() {
        Scene.range("6: LOOKER", 0, 9, 2, 5, (x, v) -> x.love(v, 1, 2));
        Scene.range("6: PLACE", 0, 0, 3, 7, (x, v) -> x.love(2, v, 2));
        Scene.range("6: LOVE", 0, 3, 9, 3, (x, v) -> x.love(0, 0, v));
        Scene.range("6: LOVE, as it is then", 0, 0, 9, 9, (x, v) -> x.love(0, 0, v) < 0 ? -1 : x.love(0, 0, 4));
    }

    private static void pane() {
        Scene.range("7: KIND", 0, 3, 5, 3, (x, v) -> x.pane(v, 3));
        Scene.range("7: KIND, as it is then", 0, 0, 5, 5, (x, v) -> x.pane(v, 3) < 0 ? -1 : x.paneOf(3, 0));
        Scene.range("7: GLIMPSES", 1, 3, 16, 3, (x, v) -> x.pane(2, v));
        Scene.range("7: GLIMPSES, as many there are then", 1, 1, 16, 16,
            (x, v) -> x.pane(2, v) < 0 ? -1 : x.paneOf(3, 1));
    }

    private static void paneOf() {
        for (int what = 0; what < 5; what++) {
            int asked = what;
            int[] first = {4, 3, 1, 52, 1};
            int[] last = {5, 16, 2, 0, 1};
            Scene.range("8: PANE, what " + what, 0, first[what], 2, last[what], (x, v) -> x.paneOf(v, asked));
        }
        Scene.range("8: what", 0, 4, 4, 1, (x, v) -> x.paneOf(0, v));
    }

    private static void glimpse() {
        Scene.range("9: PANE", 0, 51, 2, 52, (x, v) -> x.glimpse(v, 0));
        int[] counts = {3, 2, 16};
        int[] firsts = {51, 50, 52};
        int[] lasts = {31, 40, -9};
        for (int pane = 0; pane < 3; pane++) {
            int asked = pane;
            Check.due("9: the first", Scene.some().glimpse(pane, 0), firsts[pane]);
            Check.due("9: the last", Scene.some().glimpse(pane, counts[pane] - 1), lasts[pane]);
            Scene.outside("9: i", -3, 0, counts[pane] - 1, (x, v) -> x.glimpse(asked, v));
        }
    }

    private static void hang() {
        Scene.range("10: PANE", 0, 1, 2, 2, (x, v) -> x.hang(v, 3));
        Scene.range("10: PLACE, or 4", 0, 1, 4, 1, (x, v) -> x.hang(0, v));
        Scene.range("10: PLACE, where it hangs then", 0, 0, 4, -9, (x, v) -> x.hang(0, v) < 0 ? -1 : x.paneOf(0, 2));
        Check.due("10: PLACE 3 is one", Scene.some().hang(0, 3), 1);
    }

    private static void cast() {
        Scene.range("11: PANE", 0, 4, 2, 5, (x, v) -> x.cast(v, 2));
        Scene.range("11: KIND", 0, 4, 5, 4, (x, v) -> x.cast(0, v));
        Scene.range("11: KIND, as it is then", 0, 0, 5, 5, (x, v) -> x.cast(0, v) < 0 ? -1 : x.paneOf(0, 0));
    }

    private static void days() {
        Scene.range("13: n, 0 to 50", 0, 6, 50, 50, (x, v) -> x.days(v));
    }

    private static void panesOfGlass() {
        Scene.range("14: PANE", 0, 59, 2, 99, (x, v) -> x.turn(v));
        Scene.range("15: PANE", 0, 3, 2, 3, (x, v) -> x.cut(v, 1));
        Scene.outside("16: the first", -1, 0, 2, (x, v) -> x.lay(v, 1));
        Scene.outside("16: the second", -1, 0, 2, (x, v) -> x.lay(1, v));
        Check.due("16: the least first, the second behind it", Scene.some().lay(0, 1), 0);
        Check.due("16: the least second, the first behind it", Scene.some().lay(1, 0), 0);
        SlowPanes x = Scene.some();
        x.cut(2, 14);
        Check.due("16: the greatest second", x.lay(2, 3), 2);
        x.cut(2, 14);
        Check.due("16: the greatest first", x.lay(3, 2), 2);
        Scene.range("17: PANE", 0, 2, 2, 2, (y, v) -> y.drop(v));
    }

    private static void cutBehind() {
        for (int pane = 0; pane < 3; pane++) {
            int parted = pane;
            int count = Scene.some().paneOf(pane, 1);
            Check.due("15: behind the first", Scene.some().cut(pane, 1), 3);
            Check.due("15: behind the last but one", Scene.some().cut(pane, count - 1), 3);
            Scene.changesNothing("15: behind none", -1, Scene::some, x -> x.cut(parted, 0));
            Scene.changesNothing("15: far below", -1, Scene::some, x -> x.cut(parted, LEAST));
            Scene.changesNothing("15: behind the last", -4, Scene::some, x -> x.cut(parted, count));
            Scene.changesNothing("15: far above", -4, Scene::some, x -> x.cut(parted, MOST));
        }
    }

    private static void panesOfTrials() {
        Scene.range("18: PANE", 0, 6, 2, 18, (x, v) -> x.dark(v));
        Scene.range("20: PANE", 0, 705, 2, 3 * 693 + 4 * 594 + 348, (x, v) -> x.worth(v, 2, 20));
        Scene.range("22: PANE", 0, 2, 2, 1, (x, v) -> x.let(v, 1, 20));
        Scene.range("23: PANE", 0, 2, 2, 2, (x, v) -> x.best(v, 0, 1));
        Scene.range("24: PANE", 0, 100035, 2, 100594, (x, v) -> x.turned(v, 2, 1));
        Scene.range("25: PANE", 0, 0, 2, 99, (x, v) -> x.will(v, 18));
        Scene.range("28: PANE", 0, 2, 2, 2, (x, v) -> x.prove(v, 2));
        Scene.range("31: PANE", 0, 2, 2, 1, (x, v) -> x.judge(v));
    }

    private static void seen() {
        Scene.range("19: PLACE", 0, 11, 3, -3, (x, v) -> x.seen(v, 9, 0));
        Scene.range("19: DAY", 0, -3, 49, -3, (x, v) -> x.seen(0, v, 0));
        Scene.range("19: what", 0, 11, 1, 1, (x, v) -> x.seen(0, 9, v));
        SlowPanes x = Scene.some();
        x.hang(0, 3);
        Check.due("19: in the last PLACE", x.seen(3, 9, 0), 12);
    }

    private static void lookers() {
        Scene.range("20: LOOKER", 0, 468, 2, 260, (x, v) -> x.worth(0, v, 1));
        Scene.range("21: LOOKER", 0, 0, 2, 2, (x, v) -> x.buy(v, 20));
        Scene.range("22: LOOKER", 0, 0, 2, 2, (x, v) -> x.let(0, v, 20));
        Scene.range("23: LOOKER", 0, 2, 2, 2, (x, v) -> x.best(2, v, 1));
        Check.due("23: the LOOKER between", Scene.some().best(2, 1, 1), 1);
        Scene.range("24: LOOKER", 0, 100063, 2, 100035, (x, v) -> x.turned(0, v, 1));
    }

    private static void trialLengths() {
        Scene.range("20: n, 1 to 20", 1, 468, 20, 1269, (x, v) -> x.worth(0, 0, v));
        Scene.range("21: n, 1 to 20", 1, 0, 20, 2, (x, v) -> x.buy(2, v));
        Scene.range("22: n, 1 to 20", 1, 0, 20, 2, (x, v) -> x.let(0, 1, v));
        Scene.range("23: n, 1 to 20", 1, 2, 20, 2, (x, v) -> x.best(0, 0, v));
        Scene.range("24: n, 1 to 20", 1, 100063, 20, 99937, (x, v) -> x.turned(0, 0, v));
        Scene.range("28: n, 1 to 20", 1, 1, 20, 20, (x, v) -> x.prove(0, v));
    }

    private static void will() {
        Scene.range("25: DAY, TODAY to 49", 6, 52, 49, 0, (x, v) -> x.will(0, v));
        Scene.range("25: DAY, TODAY to 49, the last PANE", 6, 0, 49, 99, (x, v) -> x.will(2, v));
        Scene.changesNothing("25: DAY 0 is gone", -1, Scene::some, x -> x.will(0, 0));
        Scene.changesNothing("25: TODAY is 50", -1, Scene::ended, x -> x.will(0, 50));
        Scene.changesNothing("25: DAY 49 is gone", -1, Scene::ended, x -> x.will(0, 49));
    }

    private static void draw() {
        Scene.range("27: PLACE", 0, 63, 3, 63, (x, v) -> x.draw(v, 5));
        Scene.range("27: DAY", 0, 63, 49, 63, (x, v) -> x.draw(1, v));
    }

    private static void row() {
        Check.due("29: the first ROW", Scene.some().row(0, 0), 6);
        Check.due("29: the last ROW", Scene.some().row(3, 0), 9);
        Check.due("29: the greatest what", Scene.some().row(0, 2), 31);
        Scene.outside("29: i", -99, 0, 3, (x, v) -> x.row(v, 0));
        Scene.outside("29: what", -99, 0, 2, (x, v) -> x.row(0, v));
        Scene.outside("29: what of the last ROW", -99, 0, 2, (x, v) -> x.row(3, v));
        Scene.changesNothing("29: there are no ROWS", -99, SlowPanes::new, x -> x.row(0, 0));
    }

    private static void alterRow() {
        Check.due("30: the first ROW", Scene.some().alterRow(0, 0, 8), 6);
        Check.due("30: the last ROW", Scene.some().alterRow(3, 0, 8), 9);
        Check.due("30: the greatest what", Scene.some().alterRow(0, 2, 8), 31);
        Scene.outside("30: i", -99, 0, 3, (x, v) -> x.alterRow(v, 0, 8));
        Scene.outside("30: what", -99, 0, 2, (x, v) -> x.alterRow(0, v, 8));
        Scene.outside("30: what of the last ROW", -99, 0, 2, (x, v) -> x.alterRow(3, v, 8));
        Scene.changesNothing("30: there are no ROWS", -99, SlowPanes::new, x -> x.alterRow(0, 0, 8));
        for (int v : new int[] {LEAST, -1, 0, 1, MOST}) {
            SlowPanes x = Scene.some();
            Check.due("30: it becomes any number", x.alterRow(2, 1, v), 30);
            Check.due("30: it has become " + v, x.row(2, 1), v);
        }
    }

    private static void views() {
        Scene.range("32: SHEET", 0, 0, 3, -13, (x, v) -> x.views(v, 0, 0, 0, 0));
        Scene.range("32: PLACE", 0, 3, 3, 3, (x, v) -> x.views(0, 0, v, 7, 3));
        Scene.range("32: DAY", 0, 1, 49, 1, (x, v) -> x.views(0, 1, 2, v, 1));
        Scene.range("32: DAY with none", 0, 0, 49, 0, (x, v) -> x.views(0, 1, 2, v, 0));
        Scene.range("32: n, 0 to 50, of three", 0, 0, 50, -12, (x, v) -> x.views(0, 0, 2, 0, v));
    }

    private static void viewsFromOn() {
        for (int n = 0; n < 4; n++) {
            int taken = n;
            Check.due("32: from the first on", Scene.some().views(0, 0, 2, 5, n), n);
            Check.due("32: to the last", Scene.some().views(0, 3 - n, 2, 5, n), n);
            Scene.outside("32: i with n " + n, -12, 0, 3 - n, (x, v) -> x.views(0, v, 2, 5, taken));
        }
        Scene.changesNothing("32: one more than there are", -12, Scene::some, x -> x.views(0, 0, 2, 5, 4));
    }

    private static void viewsToTheLastDay() {
        for (int day = 0; day < 50; day++) {
            int from = day;
            int n = Math.min(40, 50 - day);
            SlowPanes x = Scene.some();
            x.sheet(0, 0, 40);
            x.put(0, n - 1, 77);
            Check.due("32: as many as there are DAYS", x.views(0, 0, 3, day, n), n);
            Check.due("32: the last one", x.viewOf(3, day + n - 1), 77);
            Scene.changesNothing("32: one more than there are DAYS", -1, Scene::some,
                y -> y.views(0, 0, 3, from, 51 - from));
        }
    }

    private static void sheet() {
        Scene.range("33: SHEET", 0, 1, 3, 1, (x, v) -> x.sheet(v, 1, 5));
        Scene.range("33: sort, -1 too", -1, 1, 3, 1, (x, v) -> x.sheet(2, v, 5));
        for (int sort = 0; sort < 4; sort++) {
            int made = sort;
            Check.due("33: n 0", Scene.some().sheet(0, sort, 0), 1);
            Check.due("33: n 40", Scene.some().sheet(0, sort, 40), 1);
            Scene.changesNothing("33: n 41", -1, Scene::some, x -> x.sheet(0, made, 41));
            Scene.changesNothing("33: n far above", -1, Scene::some, x -> x.sheet(0, made, MOST));
            Scene.changesNothing("33: n -1", -14, Scene::some, x -> x.sheet(0, made, -1));
            Scene.changesNothing("33: n far below", -14, Scene::some, x -> x.sheet(0, made, LEAST));
        }
        for (int n : new int[] {LEAST, -1, 0, 40, 41, MOST}) {
            SlowPanes x = Scene.some();
            Check.due("33: missing, n counts nothing", x.sheet(0, -1, n), 1);
            Check.due("33: it is missing", x.item(0, 0, 0), -11);
        }
    }

    private static void put() {
        Scene.range("34: SHEET", 0, 1, 3, -12, (x, v) -> x.put(v, 0, 6));
        Check.due("34: the first item", Scene.some().put(0, 0, 6), 1);
        Check.due("34: the last item", Scene.some().put(0, 2, 6), 1);
        Scene.outside("34: i", -12, 0, 2, (x, v) -> x.put(0, v, 6));
        Scene.changesNothing("34: of none the first", -12, Scene::some, x -> x.put(3, 0, 6));
        Scene.changesNothing("34: missing", -11, Scene::some, x -> x.put(2, 0, 6));
        SlowPanes x = new SlowPanes();
        x.sheet(0, 0, 40);
        Check.due("34: the fortieth", x.put(0, 39, 6), 1);
        Check.due("34: no more", x.put(0, 40, 6), -12);
    }

    private static void item() {
        Scene.range("35: SHEET", 0, 50, 3, -13, (x, v) -> x.item(v, 0, 1));
        Scene.range("35: sort", 0, 50, 3, -13, (x, v) -> x.item(0, v, 1));
        Check.due("35: the first item", Scene.some().item(0, 0, 0), -5);
        Check.due("35: the last item", Scene.some().item(0, 0, 2), 120);
        Scene.outside("35: i", -12, 0, 2, (x, v) -> x.item(0, 0, v));
        Scene.changesNothing("35: of none the first", -12, Scene::some, x -> x.item(3, 3, 0));
        Scene.changesNothing("35: missing", -11, Scene::some, x -> x.item(2, 0, 0));
        Scene.changesNothing("35: of another sort", -13, Scene::some, x -> x.item(1, 3, 1));
    }

    private static void shelf() {
        Scene.range("36: SHELF", 0, 1, 3, 1, (x, v) -> x.shelf(v, 2, 0));
        Scene.range("36: what", 0, 1, 2, 1, (x, v) -> x.shelf(2, v, 0));
        Scene.range("36: PANE", 0, 1, 2, 1, (x, v) -> x.shelf(2, 0, v));
        Scene.range("36: SHEET", 0, 1, 3, 1, (x, v) -> x.shelf(2, 1, v));
        Scene.changesNothing("36: there are no PANES", -1, SlowPanes::new, x -> x.shelf(0, 0, 0));
        for (int n : new int[] {LEAST, -1, 0, 9, MOST}) {
            SlowPanes x = Scene.some();
            Check.due("36: nothing, n counts nothing", x.shelf(0, 2, n), 1);
            Check.due("36: it holds nothing", x.taken(0, 0), -11);
        }
    }

    private static void taken() {
        Scene.range("37: SHELF", 0, 1, 3, 2, (x, v) -> x.taken(v, 0));
        Scene.outside("37: as, 0 to 13", -1, 0, 13, (x, v) -> x.taken(0, v));
        for (int as = 6; as < 10; as++) {
            int between = as;
            Scene.changesNothing("37: as " + as, -1, Scene::some, x -> x.taken(0, between));
            Scene.changesNothing("37: as " + as + " of a row", -1, Scene::some, x -> x.taken(1, between));
        }
        int[] ofDark = {1, -13, -13, 1, -13, -13};
        for (int as = 0; as < 6; as++) {
            Check.due("37: a dark one as " + as, Scene.some().taken(0, as), ofDark[as]);
            Check.due("37: a row as " + as, Scene.some().taken(1, as), -13);
        }
        int[] ofBytes = {3, -13, -13, -13};
        for (int sort = 0; sort < 4; sort++) {
            Check.due("37: a dark one for a row " + sort, Scene.some().taken(0, 10 + sort), -13);
            Check.due("37: bytes for a row " + sort, Scene.some().taken(1, 10 + sort), ofBytes[sort]);
        }
        Scene.changesNothing("37: a dark one as thick", -13, Scene::some, x -> x.taken(0, 1));
        Scene.changesNothing("37: bytes for shorts", -13, Scene::some, x -> x.taken(1, 11));
        Scene.changesNothing("37: nothing", -11, Scene::some, x -> x.taken(2, 0));
        Scene.changesNothing("37: nothing for a row", -11, Scene::some, x -> x.taken(2, 13));
    }

    private static void trace() {
        int[] bodies = {11, 30, 10};
        for (int i = 0; i < 3; i++) {
            Check.due("39: body " + i, Scene.some().trace(i), bodies[i]);
        }
        Scene.outside("39: i", -3, 0, 2, (x, v) -> x.trace(v));
        Scene.changesNothing("39: there is no TRACE", -3, SlowPanes::new, x -> x.trace(0));
    }

    private static void many() {
        Scene.range("40: what", 0, 3, 4, 3, (x, v) -> x.many(v));
        int[] wanted = {3, 3 + 2 + 4, 4, 7, 3};
        for (int what = 0; what < 5; what++) {
            Check.due("40: what " + what, Scene.some().many(what), wanted[what]);
            Check.due("40: none at first, what " + what, new SlowPanes().many(what), 0);
        }
    }
}
