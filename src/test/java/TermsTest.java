/** The sentences of parts 1 and 2 of 'Terms' that name a boundary: VIEWS, PANES, DAYS, glass, what will be seen. */
final class TermsTest {
    private static final int LEAST = Integer.MIN_VALUE, MOST = Integer.MAX_VALUE;
    private static final int KINDS = 6;

    private TermsTest() {
    }

    static void run() {
        viewsAtFirst();
        viewsAreApart();
        lovesAreApart();
        todayFromFirstToEnd();
        numberedAsTheyCome();
        rowsOfOneToSixteen();
        asToldNow();
        hangsNowhereAtFirst();
        shownByTheLast();
        shownDark();
        shownByOneGlimpse();
        movesByDays();
        aDayOfOneGlimpse();
        aDayOfSixteen();
        nowhereIsDark();
        fiftyDaysAtMost();
        turnedRows();
        cutEverywhere();
        laidEverywhere();
        laidToSixteen();
        theSecondIsGone();
        droppedEverywhere();
        darkTillToday();
        darkTillTheLastDay();
        seenFirst();
        seenOnTheLastDay();
        seenByTheLeast();
        darkIsNotPlace0OfDay0();
        worthByDays();
        worthAtMost();
        worthNearTheEnd();
        buyTheLeast();
        letTheLeast();
        cutBestTheLeast();
        turnedLeastAndMost();
        drawnWraps();
        tapeOfBytes();
    }

    private static void viewsAtFirst() {
        SlowPanes x = new SlowPanes();
        for (int place = 0; place < 4; place++) {
            for (int day = 0; day < 50; day++) {
                Check.due("Terms 1: a VIEW is 0 at first", x.viewOf(place, day), 0);
            }
        }
    }

    private static void viewsAreApart() {
        SlowPanes x = new SlowPanes();
        for (int i = 0; i < 200; i++) {
            Check.due("Terms 1: each VIEW was 0", x.view(i / 50, i % 50, i * 7 % 100), 0);
        }
        for (int i = 0; i < 200; i++) {
            Check.due("Terms 1: each VIEW by itself", x.viewOf(i / 50, i % 50), i * 7 % 100);
        }
    }

    private static void lovesAreApart() {
        SlowPanes x = new SlowPanes();
        for (int i = 0; i < 12; i++) {
            Check.due("Terms 1: LOVE is 1 at first", x.love(i / 4, i % 4, i * 5 % 10), 1);
        }
        for (int i = 0; i < 12; i++) {
            Check.due("Terms 1: each LOVE by itself", x.love(i / 4, i % 4, 0), i * 5 % 10);
        }
    }

    private static void todayFromFirstToEnd() {
        SlowPanes x = new SlowPanes();
        for (int day = 0; day < 50; day++) {
            Check.due("Terms 1: TODAY", x.today(), day);
            Check.due("Terms 1: 1 more", x.days(1), day + 1);
        }
        Check.due("Terms 1: 50 in the end", x.today(), 50);
        Check.due("Terms 1: no more", x.days(1), 50);
        Check.due("Terms 1: nor then", x.today(), 50);
    }

    private static void numberedAsTheyCome() {
        SlowPanes x = new SlowPanes();
        for (int i = 0; i < 6; i++) {
            Check.due("Terms 1: numbered as they come", x.pane(i, 16 - i), i);
            Check.due("Terms 1: so many", x.many(0), i + 1);
            Check.due("Terms 1: no next one", x.paneOf(i + 1, 0), -1);
        }
        Check.due("Terms 1: 6 at most", x.pane(0, 1), -2);
        for (int i = 0; i < 6; i++) {
            Check.due("Terms 1: its KIND", x.paneOf(i, 0), i);
            Check.due("Terms 1: its GLIMPSES", x.paneOf(i, 1), 16 - i);
        }
    }

    private static void rowsOfOneToSixteen() {
        for (int n = 1; n <= 16; n++) {
            SlowPanes x = new SlowPanes();
            x.pane(0, n);
            Check.due("Terms 1: how many", x.paneOf(0, 1), n);
            for (int i = 0; i < n; i++) {
                Check.due("Terms 1: dark at first", x.glimpse(0, i), -9);
            }
            Check.due("Terms 1: none ahead of the face", x.glimpse(0, -1), -3);
            Check.due("Terms 1: none behind the last", x.glimpse(0, n), -3);
        }
    }

    /** A PANE of one glimpse that took in a PLACE on a DAY. */
    private static SlowPanes lit(int kind, int place, int view) {
        SlowPanes x = new SlowPanes();
        x.pane(kind, 1);
        x.hang(0, place);
        x.view(place, 0, view);
        x.days(1);
        return x;
    }

    private static void asToldNow() {
        SlowPanes x = lit(0, 3, 0);
        Check.due("Terms 1: as it was told", x.paneOf(0, 3), 0);
        x.view(3, 0, 99);
        Check.due("Terms 1: as view() tells it now", x.paneOf(0, 3), 99);
        int drawn = x.draw(3, 0);
        Check.due("Terms 1: as it is DRAWN now", x.paneOf(0, 3), drawn);
        x.sheet(0, 0, 1);
        x.put(0, 0, 17);
        x.keep();
        x.views(0, 0, 3, 0, 1);
        Check.due("Terms 1: as views() tells it now", x.paneOf(0, 3), 17);
        x.again();
        Check.due("Terms 1: as it was kept", x.paneOf(0, 3), drawn);
    }

    private static void hangsNowhereAtFirst() {
        SlowPanes x = new SlowPanes();
        x.pane(0, 2);
        Check.due("Terms 1: nowhere at first", x.paneOf(0, 2), -9);
        x.cut(0, 1);
        Check.due("Terms 1: nor does what was cut", x.paneOf(1, 2), -9);
        for (int place = 0; place < 4; place++) {
            x.hang(0, place);
            Check.due("Terms 1: a PLACE", x.paneOf(0, 2), place);
        }
    }

    private static void shownByTheLast() {
        int[] views = {0, 1, 2, 49, 50, 97, 98, 99};
        int[] halves = {0, 0, 1, 24, 25, 48, 49, 49};
        for (int i = 0; i < views.length; i++) {
            int[] alone = {views[i], views[i], views[i], halves[i], halves[i], 99 - views[i]};
            for (int kind = 0; kind < KINDS; kind++) {
                Check.due("Terms 1: SHOWN by kind " + kind, lit(kind, 1, views[i]).paneOf(0, 3), alone[kind]);
            }
            for (int j = 0; j < views.length; j++) {
                SlowPanes x = new SlowPanes();
                x.pane(0, 2);
                x.hang(0, 2);
                x.view(2, 0, views[i]);
                x.view(2, 1, views[j]);
                x.days(2);
                for (int kind = 0; kind < KINDS; kind++) {
                    x.cast(0, kind);
                    int ahead = kind == 4 ? halves[j] : 0;
                    Check.due("Terms 1: with one ahead, kind " + kind, x.paneOf(0, 3), alone[kind] + ahead);
                }
            }
        }
    }

    private static void shownDark() {
        shownByKinds("the last one is dark", new int[] {0, 0, 0, 0, 49, 0}, 4, 1);
        shownByKinds("the one ahead is dark", new int[] {99, 99, 99, 49, 49, 0}, 1, 4);
        shownByKinds("both are dark", new int[] {0, 0, 0, 0, 0, 0}, 4, 4);
        shownByKinds("two ahead counts nothing", new int[] {0, 0, 0, 0, 0, 0}, 4, 4, 1);
        shownByKinds("both are lit", new int[] {99, 99, 99, 49, 98, 0}, 1, 1);
    }

    /** A PANE that hung there on DAYS 0, 1 and so on (4: nowhere); all VIEWS are 99. */
    private static void shownByKinds(String what, int[] wanted, int... hangs) {
        SlowPanes x = new SlowPanes();
        x.pane(0, hangs.length);
        for (int day = 0; day < hangs.length; day++) {
            x.view(1, day, 99);
            x.hang(0, hangs[day]);
            x.days(1);
        }
        for (int kind = 0; kind < KINDS; kind++) {
            x.cast(0, kind);
            Check.due("Terms 1: " + what + ", kind " + kind, x.paneOf(0, 3), wanted[kind]);
        }
    }

    private static void shownByOneGlimpse() {
        Check.due("Terms 1: rippled, none ahead", lit(4, 0, 99).paneOf(0, 3), 49);
        SlowPanes x = new SlowPanes();
        x.pane(4, 1);
        Check.due("Terms 1: rippled, none ahead and dark", x.paneOf(0, 3), 0);
        x.pane(5, 1);
        Check.due("Terms 1: mirror, dark", x.paneOf(1, 3), 0);
    }

    private static void movesByDays() {
        for (int kind = 0; kind < KINDS; kind++) {
            SlowPanes x = new SlowPanes();
            x.pane(kind, 1);
            x.hang(0, 0);
            int latest = -9;
            for (int day = 0; day < 50; day++) {
                boolean moves = kind == 1 ? day % 2 == 0 : kind != 2 || day % 4 == 0;
                Check.due("Terms 1: MOVES, kind " + kind + ", DAY " + day, x.paneOf(0, 4), moves ? 1 : 0);
                x.days(1);
                latest = moves ? 10 * day : latest;
                Check.due("Terms 1: moved, kind " + kind + ", DAY " + day, x.glimpse(0, 0), latest);
            }
            Check.due("Terms 1: 0 if TODAY is 50", x.paneOf(0, 4), 0);
        }
    }

    private static void aDayOfOneGlimpse() {
        SlowPanes x = lit(0, 2, 5);
        Check.due("Terms 1: the first is the last", x.glimpse(0, 0), 2);
        x.days(1);
        Check.due("Terms 1: the last one is gone", x.glimpse(0, 0), 12);
        Check.due("Terms 1: still one", x.paneOf(0, 1), 1);
    }

    private static void aDayOfSixteen() {
        SlowPanes x = new SlowPanes();
        x.pane(0, 16);
        x.hang(0, 1);
        for (int day = 0; day < 50; day++) {
            x.days(1);
            Check.due("Terms 1: the first one", x.glimpse(0, 0), 10 * day + 1);
            Check.due("Terms 1: the last one", x.glimpse(0, 15), day < 15 ? -9 : 10 * (day - 15) + 1);
            Check.due("Terms 1: no more of them", x.glimpse(0, 16), -3);
        }
    }

    private static void nowhereIsDark() {
        SlowPanes x = new SlowPanes();
        x.pane(0, 3);
        x.hang(0, 0);
        x.days(1);
        x.hang(0, 4);
        x.days(1);
        x.hang(0, 3);
        x.days(1);
        Check.due("Terms 1: PLACE 3", x.glimpse(0, 0), 23);
        Check.due("Terms 1: nowhere", x.glimpse(0, 1), -9);
        Check.due("Terms 1: PLACE 0", x.glimpse(0, 2), 0);
    }

    private static void fiftyDaysAtMost() {
        for (int before = 0; before <= 50; before++) {
            SlowPanes x = new SlowPanes();
            x.pane(0, 2);
            x.hang(0, 1);
            x.days(before);
            Check.due("Terms 1: as far as there are such", x.days(50), 50);
            Check.due("Terms 1: the last DAY", x.glimpse(0, 0), 491);
            Check.due("Terms 1: the one ahead of it", x.glimpse(0, 1), 481);
        }
    }

    /** A PANE of n glimpses, the VIEWS of PLACE 1 on n DAYS: the last one that of DAY 0. */
    private static SlowPanes filled(int n) {
        SlowPanes x = new SlowPanes();
        x.pane(0, n);
        x.hang(0, 1);
        x.days(n);
        x.hang(0, 4);
        return x;
    }

    private static void turnedRows() {
        for (int n = 1; n <= 16; n++) {
            SlowPanes x = filled(n);
            for (int day = 0; day < n; day++) {
                x.view(1, day, day + 1);
            }
            Check.due("Terms 2: shows the other end", x.turn(0), n);
            for (int i = 0; i < n; i++) {
                Check.due("Terms 2: the other way about", x.glimpse(0, i), 10 * i + 1);
            }
            Check.due("Terms 2: and back", x.turn(0), 1);
            Check.due("Terms 2: the first is first", x.glimpse(0, 0), 10 * (n - 1) + 1);
            Check.due("Terms 2: as many", x.paneOf(0, 1), n);
        }
    }

    private static void cutEverywhere() {
        for (int n = 1; n <= 16; n++) {
            for (int k = 1; k <= 17; k++) {
                SlowPanes x = filled(n);
                x.cast(0, 5);
                x.hang(0, 2);
                Check.due("Terms 2: " + n + " CUT behind " + k, x.cut(0, k), k < n ? 1 : -4);
                int left = Math.min(k, n);
                Check.due("Terms 2: keeps the first", x.paneOf(0, 1), left);
                Check.due("Terms 2: keeps its KIND", x.paneOf(0, 0), 5);
                Check.due("Terms 2: hangs on", x.paneOf(0, 2), 2);
                for (int i = 0; i < n; i++) {
                    int glimpse = i < left ? x.glimpse(0, i) : x.glimpse(1, i - left);
                    Check.due("Terms 2: in order", glimpse, 10 * (n - 1 - i) + 1);
                }
                if (k < n) {
                    Check.due("Terms 2: the others", x.paneOf(1, 1), n - k);
                    Check.due("Terms 2: of KIND pane", x.paneOf(1, 0), 0);
                    Check.due("Terms 2: nowhere", x.paneOf(1, 2), -9);
                }
            }
        }
    }

    private static void laidEverywhere() {
        for (int first = 0; first < 6; first++) {
            for (int second = 0; second < 6; second++) {
                if (first != second) {
                    laid(first, second);
                }
            }
        }
    }

    private static void laid(int first, int second) {
        SlowPanes x = new SlowPanes();
        for (int i = 0; i < 6; i++) {
            x.pane(i, i + 1);
            x.hang(i, i % 4);
        }
        int then = first > second ? first - 1 : first;
        Check.due("Terms 2: LAID", x.lay(first, second), then);
        Check.due("Terms 2: five are left", x.many(0), 5);
        Check.due("Terms 2: together", x.paneOf(then, 1), first + second + 2);
        Check.due("Terms 2: PLACE of the first", x.paneOf(then, 2), first % 4);
        for (int i = 0; i < 6; i++) {
            if (i != second) {
                Check.due("Terms 2: those behind it are one less", x.paneOf(i > second ? i - 1 : i, 0), i);
            }
        }
    }

    private static void laidToSixteen() {
        for (int n = 1; n <= 16; n++) {
            for (int more = 1; more <= 16; more++) {
                SlowPanes x = filled(n);
                x.pane(0, more);
                x.hang(1, 3);
                x.days(1);
                boolean fits = n + more <= 16;
                Check.due("Terms 2: " + n + " and " + more, x.lay(0, 1), fits ? 0 : -2);
                Check.due("Terms 2: together", x.paneOf(0, 1), fits ? n + more : n);
                Check.due("Terms 2: the second is gone", x.many(0), fits ? 1 : 2);
                if (fits) {
                    Check.due("Terms 2: the first of the second one", x.glimpse(0, n), 10 * n + 3);
                    Check.due("Terms 2: no more", x.glimpse(0, n + more), -3);
                }
            }
        }
    }

    private static void theSecondIsGone() {
        SlowPanes x = new SlowPanes();
        x.pane(0, 1);
        x.pane(1, 2);
        Check.due("Terms 2: the last two", x.lay(1, 0), 0);
        Check.due("Terms 2: one is left", x.many(0), 1);
        Check.due("Terms 2: no number 1", x.paneOf(1, 0), -1);
        Check.due("Terms 2: the next one gets it", x.pane(2, 4), 1);
        Check.due("Terms 2: dark", x.glimpse(1, 3), -9);
        Check.due("Terms 2: nowhere", x.paneOf(1, 2), -9);
    }

    private static void droppedEverywhere() {
        for (int gone = 0; gone < 6; gone++) {
            SlowPanes x = new SlowPanes();
            for (int i = 0; i < 6; i++) {
                x.pane(i, i + 1);
            }
            Check.due("17: five are left", x.drop(gone), 5);
            for (int i = 0; i < 5; i++) {
                Check.due("17: those behind it are one less", x.paneOf(i, 0), i < gone ? i : i + 1);
            }
            Check.due("17: no number 5", x.paneOf(5, 0), -1);
            Check.due("17: nor is it dropped", x.drop(5), -1);
        }
    }

    private static void darkTillToday() {
        SlowPanes x = lit(0, 1, 0);
        Check.due("Terms 2: lit TODAY, though its VIEW is 0", x.dark(0), 1);
        x.hang(0, 4);
        Check.due("Terms 2: lit TODAY, nothing comes", x.dark(0), 1);
        x.days(1);
        Check.due("Terms 2: dark from now on", x.dark(0), -3);
        SlowPanes y = new SlowPanes();
        y.pane(4, 2);
        y.hang(0, 0);
        y.view(0, 0, 99);
        y.days(1);
        Check.due("Terms 2: shows something", y.paneOf(0, 3), 49);
        Check.due("Terms 2: but its last GLIMPSE is dark TODAY", y.dark(0), 2);
    }

    private static void darkTillTheLastDay() {
        for (int n = 1; n <= 16; n++) {
            SlowPanes x = new SlowPanes();
            x.days(49 - n);
            x.pane(0, n);
            x.hang(0, 2);
            Check.due("Terms 2: lit on DAY 49", x.dark(0), 49);
            x.drop(0);
            x.days(1);
            x.pane(0, n);
            x.hang(0, 2);
            Check.due("Terms 2: lit on no DAY", x.dark(0), -3);
            x.days(n);
            Check.due("Terms 2: lit, but TODAY is 50", x.dark(0), -3);
        }
    }

    private static void seenFirst() {
        SlowPanes x = lit(0, 0, 7);
        Check.due("Terms 2: SEEN TODAY", x.seen(0, 0, 0), 1);
        Check.due("Terms 2: by 0", x.seen(0, 0, 1), 0);
        Check.due("Terms 2: no other PLACE", x.seen(1, 0, 0), -3);
        Check.due("Terms 2: the next DAY", x.seen(0, 1, 0), 2);
        x.days(1);
        Check.due("Terms 2: gone", x.seen(0, 0, 0), -3);
    }

    private static void seenOnTheLastDay() {
        SlowPanes x = new SlowPanes();
        x.pane(0, 1);
        x.hang(0, 3);
        Check.due("Terms 2: DAY 48 is SEEN on DAY 49", x.seen(3, 48, 0), 49);
        Check.due("Terms 2: by 0", x.seen(3, 48, 1), 0);
        Check.due("Terms 2: DAY 49 is never SEEN", x.seen(3, 49, 0), -3);
        x.days(49);
        Check.due("Terms 2: SEEN on DAY 49", x.seen(3, 48, 0), 49);
        x.days(1);
        Check.due("Terms 2: DAY 49 is the last GLIMPSE", x.glimpse(0, 0), 493);
        Check.due("Terms 2: but no DAY is left", x.seen(3, 49, 0), -3);
    }

    private static void seenByTheLeast() {
        SlowPanes x = new SlowPanes();
        for (int i = 0; i < 6; i++) {
            x.pane(0, i < 2 ? 4 : 3);
            x.hang(i, 1);
        }
        Check.due("Terms 2: the first DAY, not the least PANE", x.seen(1, 5, 0), 8);
        Check.due("Terms 2: of several the least", x.seen(1, 5, 1), 2);
        x.hang(2, 0);
        x.hang(3, 0);
        x.hang(4, 0);
        Check.due("Terms 2: the greatest, if it is first", x.seen(1, 5, 1), 5);
        x.hang(5, 0);
        Check.due("Terms 2: then the least of those on the next DAY", x.seen(1, 5, 1), 0);
        Check.due("Terms 2: on the next DAY", x.seen(1, 5, 0), 9);
    }

    private static void darkIsNotPlace0OfDay0() {
        SlowPanes x = new SlowPanes();
        x.pane(0, 2);
        Check.due("Terms 2: a dark one is no VIEW", x.seen(0, 0, 0), -3);
        x.hang(0, 0);
        x.days(1);
        Check.due("Terms 2: the least GLIMPSE there is", x.glimpse(0, 0), 0);
        Check.due("Terms 2: is SEEN", x.seen(0, 0, 0), 2);
        Check.due("Terms 2: it isn't dark", x.many(1), 1);
        Check.due("Terms 2: DARK TILL", x.dark(0), 2);
    }

    private static void worthByDays() {
        SlowPanes x = new SlowPanes();
        x.pane(0, 1);
        x.hang(0, 1);
        int sum = 0;
        for (int day = 0; day < 20; day++) {
            x.view(1, day, day + 1);
            Check.due("Terms 2: WORTH by " + (day + 1), x.worth(0, 0, day + 1), sum);
            sum += day + 1;
        }
        x.love(0, 1, 0);
        Check.due("Terms 2: LOVE 0", x.worth(0, 0, 20), 0);
        x.love(0, 1, 9);
        Check.due("Terms 2: LOVE 9", x.worth(0, 0, 20), 9 * 190);
    }

    private static void worthAtMost() {
        SlowPanes x = lit(5, 2, 0);
        x.love(1, 2, 9);
        Check.due("Terms 2: the most there is", x.worth(0, 1, 20), 20 * 99 * 9);
        Check.due("Terms 2: of one DAY", x.worth(0, 1, 1), 99 * 9);
        x.cast(0, 0);
        Check.due("Terms 2: the least there is", x.worth(0, 1, 20), 0);
    }

    private static void worthNearTheEnd() {
        for (int left = 0; left <= 20; left++) {
            SlowPanes x = lit(5, 2, 0);
            x.days(49 - left);
            for (int n = 1; n <= 20; n++) {
                Check.due("Terms 2: as far as there are DAYS", x.worth(0, 1, n), 99 * Math.min(n, left));
            }
        }
    }

    private static void buyTheLeast() {
        for (int best = 0; best < 6; best++) {
            SlowPanes x = new SlowPanes();
            for (int i = 0; i < 6; i++) {
                x.pane(0, 1);
                x.hang(i, i < best ? 0 : 3);
            }
            x.view(3, 0, 1);
            Check.due("Terms 2: the greatest, of several the least", x.buy(0, 2), best);
            Check.due("Terms 2: all alike", x.buy(0, 1), 0);
        }
    }

    private static void letTheLeast() {
        for (int best = 0; best < 4; best++) {
            SlowPanes x = new SlowPanes();
            x.pane(0, 1);
            for (int place = best; place < 4; place++) {
                x.view(place, 0, 1);
            }
            Check.due("Terms 2: worth most, of several the least", x.let(0, 0, 2), best);
            Check.due("Terms 2: all alike", x.let(0, 0, 1), 0);
            Check.due("Terms 2: it still hangs nowhere", x.paneOf(0, 2), -9);
        }
        SlowPanes x = new SlowPanes();
        x.pane(0, 1);
        for (int place = 0; place < 4; place++) {
            x.love(0, place, 0);
        }
        Check.due("Terms 2: nowhere is worth no more", x.let(0, 0, 20), 0);
    }

    private static void cutBestTheLeast() {
        for (int n = 2; n <= 16; n++) {
            SlowPanes x = filled(n);
            Check.due("Terms 2: all alike", x.best(0, 0, 1), 1);
            for (int k = 1; k < n; k++) {
                x.view(1, n - k, 9);
                Check.due("Terms 2: CUT BEST behind the bright one", x.best(0, 0, 1), k);
                x.view(1, n - k, 0);
            }
            x.view(1, 0, 9);
            Check.due("Terms 2: the last one is always SHOWN", x.best(0, 0, 1), 1);
        }
        Check.due("Terms 2: one GLIMPSE", filled(1).best(0, 0, 1), -3);
    }

    private static void turnedLeastAndMost() {
        SlowPanes x = new SlowPanes();
        x.pane(5, 16);
        x.hang(0, 0);
        x.days(8);
        x.hang(0, 4);
        x.love(2, 0, 9);
        Check.due("Terms 2: the most there is", x.turned(0, 2, 8), 100000 + 8 * 99 * 9);
        x.turn(0);
        Check.due("Terms 2: the least there is", x.turned(0, 2, 8), 100000 - 8 * 99 * 9);
        Check.due("Terms 2: the same both ways", x.turned(0, 2, 16), 100000);
        x.days(50);
        Check.due("Terms 2: no DAY is left", x.turned(0, 2, 8), 100000);
    }

    private static void drawnWraps() {
        for (int z : new int[] {LEAST, LEAST + 1, -65537, -1, 0, 1, 2, 65536, MOST - 1, MOST}) {
            SlowPanes x = new SlowPanes();
            Check.due("Terms 2: z is 1 at first", x.seed(z), 1);
            long next = z;
            for (int i = 0; i < 50; i++) {
                next = (int) (next * 1103515245L + 12345L);
                long view = (next & 0xffffffffL) / 65536 % 100;
                Check.due("Terms 2: DRAWN", x.draw(i % 4, i), view);
                Check.due("Terms 2: it is the VIEW", x.viewOf(i % 4, i), view);
            }
            Check.due("Terms 2: z then", x.seed(0), next);
        }
    }

    private static void tapeOfBytes() {
        SlowPanes x = new SlowPanes();
        for (int i = 1; i <= 200; i++) {
            Check.due("Terms 2: a byte of THE TAPE", x.feed(-1L << 8 | ' ', 1), i);
        }
        Check.due("Terms 2: 200 at most", x.feed(' ', 1), -2);
        Check.due("Terms 2: the lowest one each", x.quarry(), 0);
        for (int n = 1; n <= 8; n++) {
            Check.due("Terms 2: n of them", x.feed(Check.eight("       x"), n), n);
            Check.due("Terms 2: the eighth is an x", x.quarry(), n < 8 ? 0 : -107);
        }
    }
}
