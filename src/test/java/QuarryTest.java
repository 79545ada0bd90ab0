/** Promises 1 to 12: a new object, THE TAPE, VIEWS, LOVE, PANES. */
final class QuarryTest {
    private static final int LEAST = Integer.MIN_VALUE, MOST = Integer.MAX_VALUE;

    private QuarryTest() {
    }

    static void run() {
        aNewObject();
        feed();
        quarry();
        quarryMakesAllAnew();
        quarryAgainAndAgain();
        theTapeEnds();
        faultsOfPanes();
        faultsOfViews();
        faultsOfOthers();
        aFaultChangesNothing();
        view();
        love();
        pane();
        paneOf();
        moves();
        shown();
        glimpse();
        hang();
        cast();
        today();
    }

    private static void aNewObject() {
        SlowPanes x = new SlowPanes();
        Check.due("1: panes", x.many(0), 0);
        Check.due("1: lit", x.many(1), 0);
        Check.due("1: rows", x.many(2), 0);
        Check.due("1: tape", x.many(3), 0);
        Check.due("1: trace", x.many(4), 0);
        Check.due("1: today", x.today(), 0);
        Check.due("1: kept", x.again(), -3);
        Check.due("1: z", x.seed(5), 1);
        for (int place = 0; place < 4; place++) {
            Check.due("1: first view", x.viewOf(place, 0), 0);
            Check.due("1: last view", x.viewOf(place, 49), 0);
            for (int looker = 0; looker < 3; looker++) {
                Check.due("1: love", x.love(looker, place, 0), 1);
            }
        }
        for (int i = 0; i < 4; i++) {
            Check.due("1: shelf", x.taken(i, 0), -11);
            Check.due("1: sheet", x.item(i, 0, 0), -11);
        }
    }

    private static void feed() {
        SlowPanes x = new SlowPanes();
        Check.due("2: no byte", x.feed(0, 0), -1);
        Check.due("2: nine bytes", x.feed(0, 9), -1);
        Check.due("2: less than none", x.feed(0, LEAST), -1);
        Check.due("2: too many", x.feed(0, MOST), -1);
        Check.due("2: nothing came", x.many(3), 0);
        Check.due("2: eight", x.feed(Check.eight("pane 2 a"), 8), 8);
        Check.due("2: one, the lowest", x.feed(Check.eight("t3333333"), 1), 9);
        Check.due("2: three more", x.feed(Check.eight(" 1;"), 3), 12);
        Check.due("2: read in order", x.quarry(), 1);
        Check.due("2: hangs", x.paneOf(0, 2), 1);
        for (int i = 1; i <= 24; i++) {
            Check.due("2: on and on", x.feed(0x2020202020202020L, 8), 8 * i);
        }
        Check.due("2: to 199", x.feed(0x20202020202020L, 7), 199);
        Check.due("2: 201", x.feed(0x2020, 2), -2);
        Check.due("2: 207, refused too", x.feed(0x2020, 8), -2);
        Check.due("2: BAD ahead of FULL", x.feed(0x2020, 9), -1);
        Check.due("2: none of it came", x.many(3), 199);
        Check.due("2: 200", x.feed(0x20, 1), 200);
        Check.due("2: full", x.feed(0x20, 1), -2);
        Check.due("2: 200 blanks", x.quarry(), 0);
        x.feed(-1L, 8);
        Check.due("2: bytes above 127", x.quarry(), -100);
        x.feed(Check.eight("today 7") | 0x3b00000000000000L, 8);
        Check.due("2: the highest byte too", x.quarry(), 0);
        Check.due("2: the highest byte was read", x.today(), 7);
    }

    private static void quarry() {
        SlowPanes x = new SlowPanes();
        Check.due("3: nothing is told", x.quarry(), 0);
        Check.due("3: all words", Check.quarry(x, "pane 16;thick 1 at 0;double 02 at 3 ;dark 3;rippled 4 at 1;"
            + "mirror 5; today 50;love 2 0 9 3 04;view 3 from 48:99,7;view 0 from 0 : 5 , 6"
            + " ,0;  today 12  ;view 0 from 1:8;"), 6);
        for (int i = 0; i < 6; i++) {
            Check.due("3: kind " + i, x.paneOf(i, 0), i);
        }
        int[] counts = {16, 1, 2, 3, 4, 5};
        int[] hangs = {-9, 0, 3, -9, 1, -9};
        for (int i = 0; i < 6; i++) {
            Check.due("3: glimpses " + i, x.paneOf(i, 1), counts[i]);
            Check.due("3: hangs " + i, x.paneOf(i, 2), hangs[i]);
        }
        Check.due("3: all dark", x.many(1), 0);
        Check.due("3: the last today counts", x.today(), 12);
        Check.due("3: view", x.viewOf(3, 48), 99);
        Check.due("3: next view", x.viewOf(3, 49), 7);
        Check.due("3: view of 0", x.viewOf(0, 0), 5);
        Check.due("3: view told again", x.viewOf(0, 1), 8);
        Check.due("3: view behind", x.viewOf(0, 2), 0);
        int[] love = {0, 9, 3, 4};
        for (int place = 0; place < 4; place++) {
            Check.due("3: love", x.love(2, place, 0), love[place]);
            Check.due("3: love not told", x.love(1, place, 0), 1);
        }
        Check.due("3: words and numbers part themselves", Check.quarry(x, "pane7at2;view1from3:4;"), 1);
        Check.due("3: hangs in 2", x.paneOf(0, 2), 2);
        Check.due("3: view of 4", x.viewOf(1, 3), 4);
        Check.due("3: blanks alone", Check.quarry(x, "   "), 0);
        Check.due("3: today 0", Check.quarry(x, "today 00;"), 0);
        Check.due("3: blanks in the end", Check.quarry(x, "dark 2;  "), 1);
    }

    private static void quarryAgainAndAgain() {
        SlowPanes x = new SlowPanes();
        Check.quarry(x, "pane 3 at 1;view 1 from 2:34;love 0 2 3 4 5;love 2 6 7 8 9;today 6;");
        Check.due("3: the second", Check.quarry(x, "mirror 2;view 0 from 0:7;"), 1);
        Check.due("3: today of the second", x.today(), 0);
        Check.due("3: a fault", Check.quarry(x, "today 9;dark 4;dark 5;view 0 from 0:8;dark 60;"), -143);
        Check.due("3: panes of the second stay", x.paneOf(0, 0), 5);
        Check.due("3: one pane stays", x.many(0), 1);
        Check.due("3: view of the second stays", x.viewOf(0, 0), 7);
        Check.due("3: the third", x.quarry(), 0);
        for (int place = 0; place < 4; place++) {
            for (int day = 0; day < 50; day++) {
                Check.due("3: views of the third", x.viewOf(place, day), 0);
            }
            for (int looker = 0; looker < 3; looker++) {
                Check.due("3: love of the third", x.love(looker, place, 1), 1);
            }
        }
        Check.due("3: today of the third", x.today(), 0);
    }

    /** What an earlier text left behind the end of THE TAPE is not there, and a full TAPE has an end, too. */
    private static void theTapeEnds() {
        SlowPanes x = new SlowPanes();
        String blanks = " ".repeat(190);
        String[] ends = {"today 5;;;", "today 5555", "pane 1 at1", "pane 1 att", "pane 1;dar", "view 0 fro"};
        int[] faults = {298, 296, 300, 297, 297, 297};
        for (int i = 0; i < ends.length; i++) {
            Check.due("3: 200 bytes to '" + ends[i] + "'", Check.quarry(x, blanks + ends[i]), -faults[i]);
        }
        Check.quarry(x, "today 5;today 5;");
        Check.due("3: no sign behind the end", Check.quarry(x, "today 5"), -107);
        Check.quarry(x, "today 555555");
        Check.due("3: no digit behind the end", Check.quarry(x, "today 5"), -107);
        Check.due("3: no digit at all", Check.quarry(x, "today "), -106);
        Check.quarry(x, "darkdarkdark;");
        Check.due("3: no letter behind the end", Check.quarry(x, "dark"), -104);
        Check.due("3: half a word", Check.quarry(x, "da"), -100);
    }

    private static void quarryMakesAllAnew() {
        SlowPanes x = new SlowPanes();
        x.pane(1, 3);
        x.view(2, 2, 22);
        x.love(1, 1, 5);
        x.days(9);
        x.seed(77);
        x.prove(0, 3);
        x.sheet(1, 2, 3);
        x.shelf(1, 1, 1);
        x.shelf(2, 0, 0);
        x.act(2, 1, 3);
        x.keep();
        Check.due("3: one pane", Check.quarry(x, "mirror 2;"), 1);
        Check.due("3: the pane is the told one", x.paneOf(0, 0), 5);
        Check.due("3: views are 0", x.viewOf(2, 2), 0);
        Check.due("3: love is 1", x.love(1, 1, 5), 1);
        Check.due("3: today is 0", x.today(), 0);
        Check.due("3: no rows", x.many(2), 0);
        Check.due("3: z stays", x.seed(78), 77);
        Check.due("3: the tape is used up", x.many(3), 0);
        Check.due("3: the trace stays", x.many(4), 3);
        Check.due("3: a shelf stays", x.taken(1, 12), 3);
        Check.due("3: a shelf's pane is the new one", x.taken(2, 5), 0);
        Check.due("3: the sheet stays", x.item(1, 2, 2), 0);
        Check.due("3: what was kept stays", x.again(), 1);
        Check.due("3: kept", x.today(), 9);
        Check.due("3: z was kept", x.seed(1), 77);
    }

    private static void fault(String text, int place) {
        SlowPanes x = new SlowPanes();
        Check.due("3: '" + text + "'", Check.quarry(x, text), -100 - place);
        Check.due("3: no panes of '" + text + "'", x.many(0), 0);
        Check.due("3: no tape of '" + text + "'", x.many(3), 0);
    }

    private static void faultsOfPanes() {
        fault("pane", 4);
        fault("pane  ", 6);
        fault("  pan 3;", 2);
        fault("panes 3;", 0);
        fault("Pane 3;", 0);
        fault("panez 3;", 0);
        fault("cane 3;", 0);
        fault("pane{3;", 4);
        fault("pane`3;", 4);
        fault("pane /;", 5);
        fault("pane 1:;", 6);
        fault("paneA3;", 4);
        fault("pane;", 4);
        fault("pane at 3;", 5);
        fault("pane 0;", 5);
        fault("pane 00;", 5);
        fault("pane 17;", 5);
        fault("pane 016;", 5);
        fault("pane 3", 6);
        fault("pane 3 3;", 7);
        fault("pane 3 in 3;", 7);
        fault("pane 3 ata 3;", 7);
        fault("pane 3 at", 9);
        fault("pane 3 at ;", 10);
        fault("pane 3 at 4;", 10);
        fault("pane 3 at 0", 11);
        fault("pane 3 at 0 at 1;", 12);
        fault("pane 3;;", 7);
        fault("pane 3;at 0;", 7);
        fault("pane 3\t;", 6);
        fault("pane 1;pane 1;pane 1;pane 1;pane 1;pane 1; thick 99;", 43);
    }

    private static void faultsOfViews() {
        fault("view", 4);
        fault("view 4 from 0:1;", 5);
        fault("view 0 0:1;", 7);
        fault("view 0 form 0:1;", 7);
        fault("view 0 from:1;", 11);
        fault("view 0 from 50:1;", 12);
        fault("view 0 from 0 1;", 14);
        fault("view 0 from 0;", 13);
        fault("view 0 from 0:;", 14);
        fault("view 0 from 0:100;", 14);
        fault("view 0 from 0:001;", 14);
        fault("view 0 from 0:1 2;", 16);
        fault("view 0 from 0:1,;", 16);
        fault("view 0 from 0:1,,2;", 16);
        fault("view 0 from 0:1, ", 17);
        fault("view 0 from 0:1", 15);
        fault("view 0 from 49:1,2;", 17);
        fault("view 0 from 49:1, 222;", 18);
        fault("view 0 from 48:1,2 , 3", 21);
        fault("view 0 from 49:1, ;", 18);
        fault("view 0 from 49:1,  ", 19);
        fault("view 0 from 0:1.2;", 15);
        fault("view 0 from 0:-1;", 14);
    }

    private static void faultsOfOthers() {
        fault("love 3 1 1 1 1;", 5);
        fault("love 0 1 1 1;", 12);
        fault("love 0 1 1 1 10;", 13);
        fault("love 0 10 1 1 1;", 7);
        fault("love 0 1 1 1 1 1;", 15);
        fault("love 0 1111;", 7);
        fault("love 0 1 1 1 1", 14);
        fault("love 0,1 1 1 1;", 6);
        fault("today;", 5);
        fault("today 51;", 6);
        fault("today 000;", 6);
        fault("today 5 0;", 8);
        fault("today 5", 7);
        fault("today 5:", 7);
        fault("from 1;", 0);
        fault("3;", 0);
        fault(";", 0);
        fault(":", 0);
        fault("  ;", 2);
        fault("glass 3;", 0);
        fault("\u00e9", 0);
        fault("today 1;\u0000", 8);
        fault("today 1; x", 9);
    }

    private static void aFaultChangesNothing() {
        SlowPanes x = new SlowPanes();
        x.pane(3, 2);
        x.hang(0, 1);
        x.view(1, 0, 44);
        x.days(2);
        x.love(1, 1, 7);
        x.seed(9);
        x.prove(0, 4);
        Check.due("3: a fault at the end", Check.quarry(x, "today 9;view 1 from 0:5;love 1 1 1 1 1;mirror 3"), -147);
        Check.due("3: panes stay", x.paneOf(0, 0), 3);
        Check.due("3: glimpses stay", x.glimpse(0, 1), 1);
        Check.due("3: views stay", x.viewOf(1, 0), 44);
        Check.due("3: love stays", x.love(1, 1, 7), 7);
        Check.due("3: today stays", x.today(), 2);
        Check.due("3: z stays", x.seed(9), 9);
        Check.due("3: rows stay", x.many(2), 4);
        Check.due("3: the tape is used up", x.many(3), 0);
        Check.due("3: nothing left of it", x.quarry(), 0);
    }

    private static void view() {
        SlowPanes x = new SlowPanes();
        Check.due("4: first", x.view(0, 0, 99), 0);
        Check.due("4: second", x.view(0, 0, 12), 99);
        Check.due("4: another", x.view(3, 49, 5), 0);
        Check.due("4: down to 0", x.view(3, 49, 0), 5);
        int[][] bad = {{-1, 0, 0}, {4, 0, 0}, {0, -1, 0}, {0, 50, 0}, {0, 0, -1}, {0, 0, 100}, {MOST, 0, 0},
            {0, LEAST, 0}, {0, 0, MOST}, {1, -1, 5}, {LEAST, MOST, LEAST}};
        for (int[] b : bad) {
            Check.due("4: BAD", x.view(b[0], b[1], b[2]), -1);
        }
        Check.due("4: unchanged", x.viewOf(0, 0), 12);
        Check.due("5: last", x.viewOf(3, 49), 0);
        Check.due("5: before the next place", x.viewOf(0, 49), 0);
        x.view(1, 0, 31);
        Check.due("5: places are apart", x.viewOf(0, 49), 0);
        Check.due("5: told", x.viewOf(1, 0), 31);
        Check.due("5: no place", x.viewOf(-1, 0), -1);
        Check.due("5: no place 4", x.viewOf(4, 0), -1);
        Check.due("5: no day", x.viewOf(0, -1), -1);
        Check.due("5: no day 50", x.viewOf(0, 50), -1);
        Check.due("5: nothing like it", x.viewOf(LEAST, MOST), -1);
    }

    private static void love() {
        SlowPanes x = new SlowPanes();
        Check.due("6: first", x.love(0, 0, 9), 1);
        Check.due("6: second", x.love(0, 0, 0), 9);
        Check.due("6: third", x.love(0, 0, 3), 0);
        Check.due("6: another looker", x.love(1, 0, 4), 1);
        Check.due("6: another place", x.love(0, 3, 5), 1);
        Check.due("6: the last", x.love(2, 3, 6), 1);
        int[][] bad = {{-1, 0, 0}, {3, 0, 0}, {0, -1, 0}, {0, 4, 0}, {0, 0, -1}, {0, 0, 10}, {MOST, 0, 0},
            {0, LEAST, 0}, {0, 0, MOST}};
        for (int[] b : bad) {
            Check.due("6: BAD", x.love(b[0], b[1], b[2]), -1);
        }
        Check.due("6: unchanged", x.love(0, 0, 1), 3);
        Check.due("6: apart", x.love(0, 3, 1), 5);
    }

    private static void pane() {
        SlowPanes x = new SlowPanes();
        int[][] bad = {{-1, 1}, {6, 1}, {0, 0}, {0, 17}, {0, -1}, {LEAST, 5}, {MOST, 5}, {3, MOST}, {3, LEAST}};
        for (int[] b : bad) {
            Check.due("7: BAD", x.pane(b[0], b[1]), -1);
        }
        Check.due("7: none came", x.many(0), 0);
        for (int i = 0; i < 6; i++) {
            Check.due("7: number", x.pane(i, i == 0 ? 16 : i), i);
        }
        Check.due("7: FULL", x.pane(0, 1), -2);
        Check.due("7: BAD ahead of FULL", x.pane(6, 1), -1);
        Check.due("7: six", x.many(0), 6);
        Check.due("7: all dark", x.many(1), 0);
        Check.due("7: first glimpse", x.glimpse(0, 0), -9);
        Check.due("7: last glimpse", x.glimpse(0, 15), -9);
        x.hang(5, 3);
        x.days(4);
        x.drop(5);
        x.pane(5, 5);
        Check.due("7: a new one is dark", x.glimpse(5, 0), -9);
        Check.due("7: a new one hangs nowhere", x.paneOf(5, 2), -9);
    }

    private static void paneOf() {
        SlowPanes x = new SlowPanes();
        Check.due("8: no pane", x.paneOf(0, 0), -1);
        x.pane(4, 7);
        Check.due("8: kind", x.paneOf(0, 0), 4);
        Check.due("8: glimpses", x.paneOf(0, 1), 7);
        Check.due("8: nowhere", x.paneOf(0, 2), -9);
        x.hang(0, 0);
        Check.due("8: place 0", x.paneOf(0, 2), 0);
        Check.due("8: shown", x.paneOf(0, 3), 0);
        Check.due("8: moves", x.paneOf(0, 4), 1);
        Check.due("8: no what -1", x.paneOf(0, -1), -1);
        Check.due("8: no what 5", x.paneOf(0, 5), -1);
        Check.due("8: no pane 1", x.paneOf(1, 0), -1);
        Check.due("8: no pane -1", x.paneOf(-1, 0), -1);
        Check.due("8: nothing like it", x.paneOf(MOST, LEAST), -1);
    }

    private static void moves() {
        SlowPanes x = new SlowPanes();
        for (int kind = 0; kind < 6; kind++) {
            x.pane(kind, 1);
        }
        for (int day = 0; day <= 49; day++) {
            for (int kind = 0; kind < 6; kind++) {
                int wanted = kind == 1 ? (day % 2 == 0 ? 1 : 0) : kind == 2 ? (day % 4 == 0 ? 1 : 0) : 1;
                Check.due("8: kind " + kind + " on day " + day, x.paneOf(kind, 4), wanted);
            }
            x.days(1);
        }
        for (int kind = 0; kind < 6; kind++) {
            Check.due("8: kind " + kind + " in the end", x.paneOf(kind, 4), 0);
        }
    }

    private static void shown() {
        SlowPanes x = new SlowPanes();
        x.pane(0, 2);
        x.hang(0, 1);
        x.view(1, 0, 55);
        x.view(1, 1, 33);
        int[] dark = {0, 0, 0, 0, 0, 0};
        showsByKinds(x, dark);
        x.days(1);
        showsByKinds(x, new int[] {0, 0, 0, 0, 27, 0});
        x.days(1);
        showsByKinds(x, new int[] {55, 55, 55, 27, 43, 44});
        x.view(1, 0, 99);
        showsByKinds(x, new int[] {99, 99, 99, 49, 65, 0});
        x.view(1, 0, 0);
        showsByKinds(x, new int[] {0, 0, 0, 0, 16, 99});
        x.view(1, 0, 55);
        x.cut(0, 1);
        x.lay(1, 0);
        x.turn(0);
        x.cut(0, 1);
        x.drop(0);
        showsByKinds(x, new int[] {55, 55, 55, 27, 27, 44});
    }

    private static void showsByKinds(SlowPanes x, int[] wanted) {
        for (int kind = 0; kind < 6; kind++) {
            x.cast(0, kind);
            Check.due("8: shown by kind " + kind, x.paneOf(0, 3), wanted[kind]);
        }
    }

    private static void glimpse() {
        SlowPanes x = new SlowPanes();
        Check.due("9: no pane", x.glimpse(0, 0), -1);
        x.pane(0, 3);
        x.hang(0, 3);
        x.days(2);
        Check.due("9: the face", x.glimpse(0, 0), 13);
        Check.due("9: behind it", x.glimpse(0, 1), 3);
        Check.due("9: dark", x.glimpse(0, 2), -9);
        Check.due("9: none behind the last", x.glimpse(0, 3), -3);
        Check.due("9: none ahead of the first", x.glimpse(0, -1), -3);
        Check.due("9: none far off", x.glimpse(0, MOST), -3);
        Check.due("9: no pane 1", x.glimpse(1, 0), -1);
        Check.due("9: BAD ahead of NONE", x.glimpse(-1, 9), -1);
        x.days(48);
        Check.due("9: the last day", x.glimpse(0, 0), 493);
    }

    private static void hang() {
        SlowPanes x = new SlowPanes();
        Check.due("10: no pane", x.hang(0, 0), -1);
        x.pane(0, 3);
        Check.due("10: from nowhere", x.hang(0, 0), -9);
        Check.due("10: from 0", x.hang(0, 3), 0);
        Check.due("10: no place 5", x.hang(0, 5), -1);
        Check.due("10: no place -1", x.hang(0, -1), -1);
        Check.due("10: no place -9", x.hang(0, -9), -1);
        Check.due("10: no pane 1", x.hang(1, 0), -1);
        Check.due("10: no pane -1", x.hang(-1, 4), -1);
        Check.due("10: unchanged", x.paneOf(0, 2), 3);
        Check.due("10: to nowhere", x.hang(0, 4), 3);
        Check.due("10: nowhere", x.paneOf(0, 2), -9);
        x.hang(0, 2);
        x.days(1);
        x.hang(0, 4);
        x.days(1);
        Check.due("10: nowhere is dark", x.glimpse(0, 0), -9);
        Check.due("10: what it took in goes on", x.glimpse(0, 1), 2);
    }

    private static void cast() {
        SlowPanes x = new SlowPanes();
        Check.due("11: no pane", x.cast(0, 0), -1);
        x.pane(2, 3);
        x.hang(0, 1);
        Check.due("11: was double", x.cast(0, 5), 2);
        Check.due("11: no kind 6", x.cast(0, 6), -1);
        Check.due("11: no kind -1", x.cast(0, -1), -1);
        Check.due("11: no pane 1", x.cast(1, 0), -1);
        Check.due("11: was mirror", x.cast(0, 0), 5);
        Check.due("11: glimpses stay", x.paneOf(0, 1), 3);
        Check.due("11: hangs where it hung", x.paneOf(0, 2), 1);
    }

    private static void today() {
        SlowPanes x = new SlowPanes();
        Check.due("12: first", x.today(), 0);
        x.days(3);
        Check.due("12: then", x.today(), 3);
        x.days(50);
        Check.due("12: in the end", x.today(), 50);
    }
}
