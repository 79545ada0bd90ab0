/** The sentences of 'Terms' on the TEXT that name a boundary: NUMBERS, NAMES, blanks, the end, each FAULT. */
final class TextTest {
    private static final String[] KINDS = {"pane", "thick", "double", "dark", "rippled", "mirror"};
    private static final int TAKEN = -1;

    private TextTest() {
    }

    static void run() {
        glimpses();
        whereItHangs();
        viewNumbers();
        loveNumbers();
        todayNumbers();
        namesAsLongAsTheyGo();
        numbersAsLongAsTheyGo();
        numbersNeedNoBlankBesideNames();
        onlyThirtyTwoIsABlank();
        blanksStandAnywhere();
        blanksPart();
        otherBytes();
        nothingTold();
        theEndOfAPane();
        theEndOfAView();
        theEndOfLove();
        theEndOfToday();
        theEndOfASecondOne();
        sixPanesAndASeventh();
        viewsToDay49();
        viewsBeyondDay49();
        theFirstFaultCounts();
        aFullTape();
        allByItAlone();
    }

    /** The answer: how many PANES where nothing is wrong, -100 less the place of the FAULT otherwise. */
    private static void told(String text, int fault, int panes) {
        Check.due("3: '" + text + "'", Check.quarry(new SlowPanes(), text), fault == TAKEN ? panes : -100 - fault);
    }

    /** A NUMBER from least to greatest between two parts of a text, also with a 0 ahead of one digit. */
    private static void number(String before, String behind, int least, int greatest, int panes) {
        int place = before.length();
        for (int v = 0; v < 100; v++) {
            boolean isTaken = v >= least && v <= greatest;
            told(before + v + behind, isTaken ? TAKEN : place, panes);
            if (v < 10) {
                told(before + "0" + v + behind, isTaken ? TAKEN : place, panes);
            }
        }
        for (String digits : new String[] {"000", "001", "100", "010", "999", "0000000001", "4294967297"}) {
            told(before + digits + behind, place, panes);
        }
        told(before + "-1" + behind, place, panes);
        told(before + ";", place, panes);
    }

    private static void glimpses() {
        for (String kind : KINDS) {
            number(kind + " ", ";", 1, 16, 1);
            number(kind, " at 2;", 1, 16, 1);
        }
        for (int n = 1; n <= 16; n++) {
            SlowPanes x = new SlowPanes();
            Check.quarry(x, "mirror " + n + ";");
            Check.due("3: how many GLIMPSES", x.paneOf(0, 1), n);
            Check.due("3: all dark", x.many(1), 0);
            Check.due("3: the last", x.glimpse(0, n - 1), -9);
            Check.due("3: no more", x.glimpse(0, n), -3);
        }
    }

    private static void whereItHangs() {
        number("thick 3 at ", ";", 0, 3, 1);
        for (int place = 0; place < 4; place++) {
            SlowPanes x = new SlowPanes();
            Check.quarry(x, "pane 1 at " + place + ";pane 1;");
            Check.due("3: where it hangs", x.paneOf(0, 2), place);
            Check.due("3: nowhere, if not told", x.paneOf(1, 2), -9);
        }
    }

    private static void viewNumbers() {
        number("view ", " from 7:5;", 0, 3, 0);
        number("view 1 from ", ":5;", 0, 49, 0);
        number("view 1 from 7:", ";", 0, 99, 0);
        number("view 1 from 7:8,", ";", 0, 99, 0);
        number("view 1 from 7:8,9 , ", ",1;", 0, 99, 0);
        for (int v = 0; v < 100; v++) {
            SlowPanes x = new SlowPanes();
            Check.quarry(x, "view " + v % 4 + " from " + v % 50 + ":" + v + ";");
            Check.due("3: the VIEW", x.viewOf(v % 4, v % 50), v);
        }
    }

    private static void loveNumbers() {
        number("love ", " 1 2 3 4;", 0, 2, 0);
        number("love 1 ", " 2 3 4;", 0, 9, 0);
        number("love 1 2 ", " 3 4;", 0, 9, 0);
        number("love 1 2 3 ", " 4;", 0, 9, 0);
        number("love 1 2 3 4 ", ";", 0, 9, 0);
        for (int looker = 0; looker < 3; looker++) {
            SlowPanes x = new SlowPanes();
            Check.quarry(x, "love " + looker + " 0 9 5 7;");
            int[] wanted = {0, 9, 5, 7};
            for (int place = 0; place < 4; place++) {
                Check.due("3: LOVE", x.love(looker, place, 1), wanted[place]);
                Check.due("3: LOVE of another LOOKER", x.love((looker + 1) % 3, place, 1), 1);
            }
        }
    }

    private static void todayNumbers() {
        number("today ", ";", 0, 50, 0);
        for (int day = 0; day <= 50; day++) {
            SlowPanes x = new SlowPanes();
            Check.quarry(x, "today " + day + ";");
            Check.due("3: TODAY", x.today(), day);
        }
    }

    /** The bytes just ahead of a and just behind z are no letters; a letter more makes another NAME. */
    private static void namesAsLongAsTheyGo() {
        String[] names = {"pane", "thick", "double", "dark", "rippled", "mirror", "view", "love", "today"};
        for (String name : names) {
            told(name + "a 1;", 0, 0);
            told(name + "z 1;", 0, 0);
            told("a" + name + " 1;", 0, 0);
            told(name.substring(0, name.length() - 1) + " 1;", 0, 0);
            told(name.substring(1) + " 1;", 0, 0);
            told(name.toUpperCase() + " 1;", 0, 0);
            told(name + "` 1;", name.length(), 0);
            told(name + "{ 1;", name.length(), 0);
            told(name + name + " 1;", 0, 0);
        }
        told("pane 1 atz 1;", 7, 0);
        told("pane 1 a 1;", 7, 0);
        told("view 1 fro 1:1;", 7, 0);
        told("view 1 fromm 1:1;", 7, 0);
        told("a;", 0, 0);
        told("z;", 0, 0);
        told("`;", 0, 0);
        told("{;", 0, 0);
    }

    /** The bytes just ahead of 0 and just behind 9 are no digits. */
    private static void numbersAsLongAsTheyGo() {
        told("today 1/;", 7, 0);
        told("today 1:;", 7, 0);
        told("today /1;", 6, 0);
        told("today :1;", 6, 0);
        told("today 9;", TAKEN, 0);
        told("today 0;", TAKEN, 0);
        told("today 123;", 6, 0);
        told("today 12 3;", 9, 0);
        told("pane 1 at 12;", 10, 0);
        told("love 0 1 2 34;", 11, 0);
    }

    private static void numbersNeedNoBlankBesideNames() {
        told("pane1at1;", TAKEN, 1);
        told("pane16at3;thick2;", TAKEN, 2);
        told("today9;", TAKEN, 0);
        told("love0 1 2 3 4;", TAKEN, 0);
        told("view0from9:1;", TAKEN, 0);
        told("pane1at1x;", 8, 0);
        told("today9today;", 6, 0);
    }

    /** A byte that is no blank can't stand where a blank can. */
    private static void onlyThirtyTwoIsABlank() {
        told("pane 1 ;", TAKEN, 1);
        int[] others = {0, 1, 9, 10, 11, 12, 13, 31, 33, 127, 128, 133, 160, 224, 255};
        for (int other : others) {
            told("pane" + (char) other + "1;", 4, 0);
            told("pane 1" + (char) other + ";", 6, 0);
            told("pane 1;" + (char) other, 7, 0);
            told((char) other + "pane 1;", 0, 0);
            told("view 1 from 2:3" + (char) other + ",4;", 15, 0);
        }
    }

    private static void blanksStandAnywhere() {
        String[] words = {"rippled", "2", "at", "3", ";", "view", "1", "from", "47", ":", "7", ",", "8", ",", "9", ";",
            "love", "1", "2", "3", "4", "5", ";", "today", "8", ";"};
        StringBuilder text = new StringBuilder();
        for (String word : words) {
            text.append("   ").append(word);
        }
        SlowPanes x = new SlowPanes();
        Check.due("3: blanks everywhere", Check.quarry(x, text + "   "), 1);
        Check.due("3: where it hangs", x.paneOf(0, 2), 3);
        Check.due("3: the last VIEW", x.viewOf(1, 49), 9);
        Check.due("3: LOVE", x.love(1, 3, 0), 5);
        Check.due("3: TODAY", x.today(), 8);
    }

    private static void blanksPart() {
        told("pa ne 1;", 0, 0);
        told("pane 1 6;", 7, 0);
        told("pane 1 a t 1;", 7, 0);
        told("to day 1;", 0, 0);
        told("today 5 0;", 8, 0);
        told("today 5 ;", TAKEN, 0);
    }

    /** Every byte that stands where a NAME, a NUMBER or a sign must: only what is told can stand there. */
    private static void otherBytes() {
        for (int other = 0; other < 256; other++) {
            char c = (char) other;
            boolean isDigit = c >= '0' && c <= '9';
            if (c != ' ') {
                told("" + c, 0, 0);
                told("today 5;" + c, 8, 0);
                told("pane 1;" + c + ";", 7, 0);
            }
            if (c != ' ' && !isDigit) {
                told("today 5" + c, c == ';' ? TAKEN : 7, 0);
                told("today " + c, 6, 0);
                told("view 1 from 2" + c + "3;", c == ':' ? TAKEN : 13, 0);
                told("view 1 from 2:3" + c + "4;", c == ',' ? TAKEN : c == ';' ? 16 : 15, 0);
            }
        }
    }

    private static void nothingTold() {
        told("", TAKEN, 0);
        told(" ", TAKEN, 0);
        told("                    ", TAKEN, 0);
        told(";", 0, 0);
        told(" ;", 1, 0);
    }

    /** Each text that ends too early: the place where the NAME begins that is not as told, or the end. */
    private static void ends(String text, int panes, int... faults) {
        told("", TAKEN, 0);
        for (int n = 1; n <= faults.length; n++) {
            told(text.substring(0, n), faults[n - 1], 0);
        }
        told(text, TAKEN, panes);
        Check.due("3: every end of '" + text + "'", faults.length, text.length() - 1);
    }

    private static void theEndOfAPane() {
        ends("thick 12 at 3 ;", 1, 0, 0, 0, 0, 5, 6, 7, 8, 9, 9, 11, 12, 13, 14);
    }

    private static void theEndOfAView() {
        ends("view 1 from 48:7 , 8;", 0, 0, 0, 0, 4, 5, 6, 7, 7, 7, 7, 11, 12, 13, 14, 15, 16, 17, 18, 19, 20);
    }

    private static void theEndOfLove() {
        ends("love 2 0 1 02 9;", 0, 0, 0, 0, 4, 5, 6, 7, 8, 9, 10, 11, 12, 13, 14, 15);
    }

    private static void theEndOfToday() {
        ends("today 50;", 0, 0, 0, 0, 0, 5, 6, 7, 8);
    }

    private static void theEndOfASecondOne() {
        String first = "love 0 1 2 3 4;";
        told(first, TAKEN, 0);
        told(first + " ", TAKEN, 0);
        told(first + " m", 16, 0);
        told(first + " mirror", 22, 0);
        told(first + " mirror 9", 24, 0);
        told(first + " mirror 9  ", 26, 0);
        told(first + " mirror 9  ;", TAKEN, 1);
    }

    private static void sixPanesAndASeventh() {
        String six = "pane 1;thick 2;double 3;dark 4;rippled 5;mirror 6;";
        told(six, TAKEN, 6);
        told(six + "today 3;", TAKEN, 6);
        for (String kind : KINDS) {
            told(six + kind + " 1;", six.length(), 0);
            told(six + " " + kind + " 17;", six.length() + 1, 0);
            told(six + kind, six.length(), 0);
            told(six + "today 3; " + kind + " 1 at 1;", six.length() + 9, 0);
        }
    }

    private static void viewsToDay49() {
        StringBuilder fifty = new StringBuilder("view 2 from 0:");
        for (int day = 0; day < 50; day++) {
            fifty.append(day % 9 + 1).append(day < 49 ? "," : ";");
        }
        SlowPanes x = new SlowPanes();
        Check.due("3: fifty VIEWS", Check.quarry(x, fifty.toString()), 0);
        for (int day = 0; day < 50; day++) {
            Check.due("3: the VIEW", x.viewOf(2, day), day % 9 + 1);
            Check.due("3: of another PLACE", x.viewOf(3, day), 0);
        }
        told("view 2 from 49:1;", TAKEN, 0);
        told("view 2 from 48:1,2;", TAKEN, 0);
        told("view 2 from 0:1;", TAKEN, 0);
    }

    private static void viewsBeyondDay49() {
        StringBuilder more = new StringBuilder("view 2 from 0:");
        for (int day = 0; day < 50; day++) {
            more.append("7,");
        }
        told(more + "8;", 114, 0);
        told(more + "100;", 114, 0);
        told(more + "  8;", 116, 0);
        told(more + ";", 114, 0);
        told(more.toString(), 114, 0);
        told("view 2 from 49:1,2;", 17, 0);
        told("view 2 from 49:1 , 2;", 19, 0);
        told("view 2 from 48:1,2,3;", 19, 0);
        told("view 2 from 49:100,2;", 15, 0);
        told("view 2 from 50:1;", 12, 0);
    }

    private static void theFirstFaultCounts() {
        told("pane 17 at 4;", 5, 0);
        told("pane 1 at 4 x", 10, 0);
        told("view 4 from 50:100;", 5, 0);
        told("view 3 from 50:100;", 12, 0);
        told("love 3 10 10 10 10;", 5, 0);
        told("love 2 10 10 10 10;", 7, 0);
        told("today 51;today 52;", 6, 0);
        told("x y z", 0, 0);
        told("pane 1;x;y;", 7, 0);
        told("today 1;pane 0;pane 0;", 13, 0);
    }

    /** 200 bytes: the last one ends the TEXT, or more must come behind it. */
    private static void aFullTape() {
        String blanks = " ".repeat(192);
        told(blanks + "today 7;", TAKEN, 0);
        told(blanks + "today 77", 198, 0);
        told(blanks + " today 7", 200, 0);
        told(blanks + "  today ", 200, 0);
        told(blanks + "   today", 200, 0);
        told(blanks + "    toda", 196, 0);
        told(blanks + "today 7x", 199, 0);
        told("today 7;" + blanks, TAKEN, 0);
        told("pane 7;;" + blanks, 7, 0);
        told(" ".repeat(200), TAKEN, 0);
        told("dark 3; ".repeat(6) + " ".repeat(152), TAKEN, 6);
    }

    private static void allByItAlone() {
        SlowPanes x = Scene.six();
        x.quarry();
        x.seed(-9);
        Check.due("3: nothing is told", x.quarry(), 0);
        Check.due("3: no PANES", x.many(0), 0);
        Check.due("3: TODAY 0", x.today(), 0);
        for (int place = 0; place < 4; place++) {
            for (int day = 0; day < 50; day++) {
                Check.due("3: VIEWS 0", x.viewOf(place, day), 0);
            }
            for (int looker = 0; looker < 3; looker++) {
                Check.due("3: LOVE 1", x.love(looker, place, 1), 1);
            }
        }
        Check.due("3: z stays", x.seed(0), -9);
        Check.due("3: no ROWS", x.many(2), 0);
        Check.due("3: THE TRACE stays", x.many(4), 3);
        Check.due("3: a SHEET stays", x.item(0, 0, 2), 120);
        Check.due("3: a SHELF's row stays", x.taken(1, 10), 3);
        Check.due("3: a SHELF's PANE is none", x.taken(0, 0), -11);
        Check.due("3: what was kept stays", x.again(), 3);
    }
}
