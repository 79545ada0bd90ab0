/** Panes of slow glass that show what was to be seen days ago. ../shared/DOC.md says what each call promises. */
public final class SlowPanes {
    public static final int BAD = -1, FULL = -2, NONE = -3, STATE = -4;

    private static final int NOTHING_THERE = -11, OUTSIDE = -12, OTHER_SORT = -13;
    private static final int SIZE_BELOW_0 = -14, PARTED_BY_0 = -15;
    private static final int NO_ROW = -99, FAULT = -100;
    private static final int PLACES = 4, DAYS = 50, LOOKERS = 3, VIEW_MOST = 99, LOVE_MOST = 9;
    // the mask holds because GLIMPSES_MOST is a power of 2
    private static final int PANES_MOST = 6, GLIMPSES_MOST = 16, RING_MASK = GLIMPSES_MOST - 1, TRIAL_DAYS_MOST = 20;
    private static final int KINDS = 6, PANE = 0, THICK = 1, DOUBLE = 2, DARK = 3, RIPPLED = 4, MIRROR = 5;
    private static final int NOWHERE = 4, DARK_GLIMPSE = -9, NOWHERE_TOLD = -9;
    private static final int TURNED_MORE = 100000;
    private static final int TAPE_MOST = 200, TRACE_MOST = 30;
    private static final int ROW_PARTS = 3;
    private static final int SHEETS = 4, SHEET_MOST = 40, SHELVES = 4, NO_PANE = -1;
    private static final int SORTS = 4, BYTES = 0, SHORTS = 1, MISSING = -1, SORTS_FROM = 10;
    private static final int ACTS = 4;

    private final Pane trial = new Pane();
    private final Quarry tape = new Quarry();
    private final int[] rows = new int[TRIAL_DAYS_MOST * ROW_PARTS];
    private final Sheet[] sheets = new Sheet[SHEETS];
    private final int[] shelfPanes = new int[SHELVES];
    private final Sheet[] shelfSheets = new Sheet[SHELVES];
    private final Trace trace = new Trace();
    private final World kept = new World();
    private World world = new World();
    private World spare = new World();
    private boolean isKept = false;
    private int rowCount = 0;

    public SlowPanes() {
        for (int i = 0; i < SHELVES; i++) {
            shelfPanes[i] = NO_PANE;
        }
    }

    // ---- the quarry

    public int feed(long eight, int n) {
        if (n < 1 || n > 8) {
            return BAD;
        }
        if (tape.length + n > TAPE_MOST) {
            return FULL;
        }
        tape.take(eight, n);
        return tape.length;
    }

    public int quarry() {
        spare.clear();
        spare.z = world.z;
        int fault = tape.readInto(spare);
        if (fault >= 0) {
            return FAULT - fault;
        }
        World before = world;
        world = spare;
        spare = before;
        rowCount = 0;
        return world.count;
    }

    public int view(int place, int day, int v) {
        if (!isPlace(place) || !isDay(day) || v < 0 || v > VIEW_MOST) {
            return BAD;
        }
        int slot = viewSlot(place, day);
        int before = world.views[slot];
        world.views[slot] = v;
        return before;
    }

    public int viewOf(int place, int day) {
        if (!isPlace(place) || !isDay(day)) {
            return BAD;
        }
        return world.views[viewSlot(place, day)];
    }

    public int love(int looker, int place, int v) {
        if (!isLooker(looker) || !isPlace(place) || v < 0 || v > LOVE_MOST) {
            return BAD;
        }
        int slot = loveSlot(looker, place);
        int before = world.loves[slot];
        world.loves[slot] = v;
        return before;
    }

    public int pane(int kind, int n) {
        if (!isKind(kind) || n < 1 || n > GLIMPSES_MOST) {
            return BAD;
        }
        if (world.isFull()) {
            return FULL;
        }
        world.addPane(kind, n);
        return world.count - 1;
    }

    public int paneOf(int pane, int what) {
        if (!isPane(pane)) {
            return BAD;
        }
        Pane asked = world.panes[pane];
        switch (what) {
            case 0: return asked.kind;
            case 1: return asked.count;
            case 2: return asked.placeTold();
            case 3: return world.shownBy(asked);
            case 4: return world.today < DAYS && asked.movesOn(world.today) ? 1 : 0;
            default: return BAD;
        }
    }

    public int glimpse(int pane, int i) {
        if (!isPane(pane)) {
            return BAD;
        }
        Pane asked = world.panes[pane];
        if (i < 0 || i >= asked.count) {
            return NONE;
        }
        return asked.glimpseAt(i);
    }

    public int hang(int pane, int place) {
        if (!isPane(pane) || !isPlace(place) && place != NOWHERE) {
            return BAD;
        }
        Pane hung = world.panes[pane];
        int before = hung.placeTold();
        hung.place = place;
        return before;
    }

    public int cast(int pane, int kind) {
        if (!isPane(pane) || !isKind(kind)) {
            return BAD;
        }
        Pane changed = world.panes[pane];
        int before = changed.kind;
        changed.kind = kind;
        return before;
    }

    public int today() {
        return world.today;
    }

    // ---- glass

    public int days(int n) {
        if (n < 0 || n > DAYS) {
            return BAD;
        }
        for (int i = 0; i < n && world.today < DAYS; i++) {
            world.passDay();
        }
        return world.today;
    }

    public int turn(int pane) {
        if (!isPane(pane)) {
            return BAD;
        }
        Pane turning = world.panes[pane];
        turning.turnAbout();
        return world.shownBy(turning);
    }

    public int cut(int pane, int k) {
        if (!isPane(pane) || k < 1) {
            return BAD;
        }
        Pane parted = world.panes[pane];
        if (parted.count <= k) {
            return STATE;
        }
        if (world.isFull()) {
            return FULL;
        }
        Pane others = world.addPane(PANE, 1);
        others.becomeBehind(parted, k);
        parted.count = k;
        return world.count - 1;
    }

    public int lay(int first, int second) {
        if (!isPane(first) || !isPane(second) || first == second) {
            return BAD;
        }
        Pane lower = world.panes[first];
        Pane upper = world.panes[second];
        if (lower.count + upper.count > GLIMPSES_MOST) {
            return FULL;
        }
        lower.append(upper);
        world.removePane(second);
        return first > second ? first - 1 : first;
    }

    public int drop(int pane) {
        if (!isPane(pane)) {
            return BAD;
        }
        world.removePane(pane);
        return world.count;
    }

    // ---- what will be seen

    public int dark(int pane) {
        if (!isPane(pane)) {
            return BAD;
        }
        trial.copyFrom(world.panes[pane]);
        for (int day = world.today; day < DAYS; day++) {
            if (trial.last() != DARK_GLIMPSE) {
                return day;
            }
            trial.passDay(day);
        }
        return NONE;
    }

    public int seen(int place, int day, int what) {
        if (!isPlace(place) || !isDay(day) || what < 0 || what > 1) {
            return BAD;
        }
        int glimpse = glimpseOf(place, day);
        int firstDay = DAYS;
        int firstPane = NO_PANE;
        for (int i = 0; i < world.count; i++) {
            int shownOn = firstDayOf(i, glimpse);
            if (shownOn < firstDay) {
                firstDay = shownOn;
                firstPane = i;
            }
        }
        if (firstPane == NO_PANE) {
            return NONE;
        }
        return what == 0 ? firstDay : firstPane;
    }

    public int worth(int pane, int looker, int n) {
        if (!isPane(pane) || !isLooker(looker) || !isTrialLength(n)) {
            return BAD;
        }
        return worthAsIs(pane, looker, n);
    }

    public int buy(int looker, int n) {
        if (!isLooker(looker) || !isTrialLength(n)) {
            return BAD;
        }
        int bestPane = NONE;
        int bestWorth = -1;
        for (int i = 0; i < world.count; i++) {
            int itsWorth = worthAsIs(i, looker, n);
            if (itsWorth > bestWorth) {
                bestWorth = itsWorth;
                bestPane = i;
            }
        }
        return bestPane;
    }

    public int let(int pane, int looker, int n) {
        if (!isPane(pane) || !isLooker(looker) || !isTrialLength(n)) {
            return BAD;
        }
        int bestPlace = 0;
        int bestWorth = -1;
        for (int place = 0; place <= NOWHERE; place++) {
            trial.copyFrom(world.panes[pane]);
            trial.place = place;
            int itsWorth = world.worthOf(trial, looker, n);
            if (itsWorth > bestWorth) {
                bestWorth = itsWorth;
                bestPlace = place;
            }
        }
        return bestPlace;
    }

    public int best(int pane, int looker, int n) {
        if (!isPane(pane) || !isLooker(looker) || !isTrialLength(n)) {
            return BAD;
        }
        int bestCut = NONE;
        int bestWorth = -1;
        for (int k = 1; k < world.panes[pane].count; k++) {
            int bothWorth = worthCut(world.panes[pane], k, looker, n);
            if (bothWorth > bestWorth) {
                bestWorth = bothWorth;
                bestCut = k;
            }
        }
        return bestCut;
    }

    public int turned(int pane, int looker, int n) {
        if (!isPane(pane) || !isLooker(looker) || !isTrialLength(n)) {
            return BAD;
        }
        trial.copyFrom(world.panes[pane]);
        trial.turnAbout();
        int worthTurned = world.worthOf(trial, looker, n);
        return worthTurned - worthAsIs(pane, looker, n) + TURNED_MORE;
    }

    public int will(int pane, int day) {
        if (!isPane(pane) || !isDay(day) || day < world.today) {
            return BAD;
        }
        trial.copyFrom(world.panes[pane]);
        for (int passing = world.today; passing < day; passing++) {
            trial.passDay(passing);
        }
        return world.shownBy(trial);
    }

    public int seed(int v) {
        int before = world.z;
        world.z = v;
        return before;
    }

    public int draw(int place, int day) {
        if (!isPlace(place) || !isDay(day)) {
            return BAD;
        }
        world.z = world.z * 1103515245 + 12345;
        int drawn = (world.z >>> 16) % 100;
        world.views[viewSlot(place, day)] = drawn;
        return drawn;
    }

    // ---- rows

    public int prove(int pane, int n) {
        if (!isPane(pane) || !isTrialLength(n)) {
            return BAD;
        }
        trial.copyFrom(world.panes[pane]);
        rowCount = Math.min(n, DAYS - world.today);
        for (int i = 0; i < rowCount; i++) {
            int day = world.today + i;
            for (int what = 0; what < ROW_PARTS; what++) {
                rows[rowSlot(i, what)] = rowPart(day, what);
            }
            trial.passDay(day);
        }
        return rowCount;
    }

    public int row(int i, int what) {
        if (!isRowPart(i, what)) {
            return NO_ROW;
        }
        return rows[rowSlot(i, what)];
    }

    public int alterRow(int i, int what, int v) {
        if (!isRowPart(i, what)) {
            return NO_ROW;
        }
        int slot = rowSlot(i, what);
        int before = rows[slot];
        rows[slot] = v;
        return before;
    }

    public int judge(int pane) {
        if (!isPane(pane)) {
            return BAD;
        }
        trial.copyFrom(world.panes[pane]);
        for (int i = 0; i < rowCount; i++) {
            int day = world.today + i;
            if (day >= DAYS || !isRowRight(i, day)) {
                return i + 1;
            }
            trial.passDay(day);
        }
        return 0;
    }

    public int views(int sheet, int i, int place, int day, int n) {
        if (!isSheet(sheet) || !isPlace(place) || !isDay(day) || n < 0 || n > DAYS - day) {
            return BAD;
        }
        Sheet asked = sheets[sheet];
        if (asked == null) {
            return NOTHING_THERE;
        }
        if (asked.sort != BYTES) {
            return OTHER_SORT;
        }
        if (i < 0 || i > asked.items.length - n) {
            return OUTSIDE;
        }
        for (int j = 0; j < n; j++) {
            world.views[viewSlot(place, day + j)] = Math.max(0, Math.min(VIEW_MOST, asked.items[i + j]));
        }
        return n;
    }

    // ---- the host

    public int sheet(int sheet, int sort, int n) {
        if (!isSheet(sheet) || !isSort(sort) && sort != MISSING) {
            return BAD;
        }
        if (sort == MISSING) {
            sheets[sheet] = null;
            return 1;
        }
        if (n > SHEET_MOST) {
            return BAD;
        }
        if (n < 0) {
            return SIZE_BELOW_0;
        }
        sheets[sheet] = new Sheet(sort, n);
        return 1;
    }

    public int put(int sheet, int i, int v) {
        if (!isSheet(sheet)) {
            return BAD;
        }
        Sheet asked = sheets[sheet];
        if (asked == null) {
            return NOTHING_THERE;
        }
        if (!asked.has(i)) {
            return OUTSIDE;
        }
        asked.items[i] = asked.narrowed(v);
        return 1;
    }

    public int item(int sheet, int sort, int i) {
        if (!isSheet(sheet) || !isSort(sort)) {
            return BAD;
        }
        Sheet asked = sheets[sheet];
        if (asked == null) {
            return NOTHING_THERE;
        }
        if (asked.sort != sort) {
            return OTHER_SORT;
        }
        if (!asked.has(i)) {
            return OUTSIDE;
        }
        return asked.items[i];
    }

    public int shelf(int shelf, int what, int n) {
        if (!isShelf(shelf) || what < 0 || what > 2) {
            return BAD;
        }
        if (what == 0 && !isPane(n) || what == 1 && !isSheet(n)) {
            return BAD;
        }
        shelfPanes[shelf] = what == 0 ? n : NO_PANE;
        shelfSheets[shelf] = what == 1 ? sheets[n] : null;
        return 1;
    }

    public int taken(int shelf, int as) {
        boolean asPane = isKind(as);
        if (!isShelf(shelf) || !asPane && !isSort(as - SORTS_FROM)) {
            return BAD;
        }
        Sheet sheetThere = shelfSheets[shelf];
        if (sheetThere != null) {
            boolean ofSort = !asPane && sheetThere.sort == as - SORTS_FROM;
            return ofSort ? sheetThere.items.length : OTHER_SORT;
        }
        int pane = shelfPanes[shelf];
        if (!isPane(pane)) {
            return NOTHING_THERE;
        }
        return asPane && isUnder(world.panes[pane].kind, as) ? pane : OTHER_SORT;
    }

    public int act(int shelf, int act, int x) {
        trace.clear();
        if (!isShelf(shelf) || act < 0 || act >= ACTS || !isPane(shelfPanes[shelf])) {
            return 0;
        }
        Thing thing = thingOf(shelfPanes[shelf]);
        int answer;
        switch (act) {
            case 0: answer = thing.shows(x); break;
            case 1: answer = thing.moves(x); break;
            case 2: answer = thing.shares(x); break;
            default: answer = thing.tells(x); break;
        }
        return trace.isParted ? PARTED_BY_0 : answer;
    }

    public int trace(int i) {
        return i < 0 || i >= trace.count ? NONE : trace.bodies[i];
    }

    public int many(int what) {
        switch (what) {
            case 0: return world.count;
            case 1: return world.countLit();
            case 2: return rowCount;
            case 3: return tape.length;
            case 4: return trace.count;
            default: return BAD;
        }
    }

    // ---- kept

    public int keep() {
        kept.copyFrom(world);
        isKept = true;
        return 1;
    }

    public int again() {
        if (!isKept) {
            return NONE;
        }
        world.copyFrom(kept);
        return world.count;
    }

    // ---- what the calls share

    private boolean isPane(int pane) {
        return pane >= 0 && pane < world.count;
    }

    private static boolean isPlace(int place) {
        return place >= 0 && place < PLACES;
    }

    private static boolean isDay(int day) {
        return day >= 0 && day < DAYS;
    }

    private static boolean isLooker(int looker) {
        return looker >= 0 && looker < LOOKERS;
    }

    private static boolean isKind(int kind) {
        return kind >= 0 && kind < KINDS;
    }

    private static boolean isTrialLength(int n) {
        return n >= 1 && n <= TRIAL_DAYS_MOST;
    }

    private static boolean isSheet(int sheet) {
        return sheet >= 0 && sheet < SHEETS;
    }

    private static boolean isSort(int sort) {
        return sort >= 0 && sort < SORTS;
    }

    private static boolean isShelf(int shelf) {
        return shelf >= 0 && shelf < SHELVES;
    }

    private boolean isRowPart(int i, int what) {
        return i >= 0 && i < rowCount && what >= 0 && what < ROW_PARTS;
    }

    private static int viewSlot(int place, int day) {
        return place * DAYS + day;
    }

    private static int loveSlot(int looker, int place) {
        return looker * PLACES + place;
    }

    private static int rowSlot(int i, int what) {
        return i * ROW_PARTS + what;
    }

    private static int glimpseOf(int place, int day) {
        return 10 * day + place;
    }

    private static boolean isUnder(int kind, int as) {
        return as == kind || as == PANE || as == THICK && kind == DOUBLE || as == DARK && kind == RIPPLED;
    }

    /** The first DAY from TODAY on on which a PANE's last GLIMPSE is this one; DAYS if there is none. */
    private int firstDayOf(int pane, int glimpse) {
        trial.copyFrom(world.panes[pane]);
        for (int day = world.today; day < DAYS; day++) {
            if (trial.last() == glimpse) {
                return day;
            }
            trial.passDay(day);
        }
        return DAYS;
    }

    private int worthAsIs(int pane, int looker, int n) {
        trial.copyFrom(world.panes[pane]);
        return world.worthOf(trial, looker, n);
    }

    private int worthCut(Pane pane, int k, int looker, int n) {
        trial.copyFrom(pane);
        trial.count = k;
        int worthKept = world.worthOf(trial, looker, n);
        trial.becomeBehind(pane, k);
        return worthKept + world.worthOf(trial, looker, n);
    }

    /** One part of the ROW that the trial PANE gives on a DAY. */
    private int rowPart(int day, int what) {
        switch (what) {
            case 0: return day;
            case 1: return world.shownBy(trial);
            default: return trial.last();
        }
    }

    private boolean isRowRight(int i, int day) {
        for (int what = 0; what < ROW_PARTS; what++) {
            if (rows[rowSlot(i, what)] != rowPart(day, what)) {
                return false;
            }
        }
        return true;
    }

    private Thing thingOf(int pane) {
        int glimpses = world.panes[pane].count;
        switch (world.panes[pane].kind) {
            case THICK: return new ThickThing(pane, glimpses, trace);
            case DOUBLE: return new DoubleThing(pane, glimpses, trace);
            case DARK: return new DarkThing(pane, glimpses, trace);
            case RIPPLED: return new RippledThing(pane, glimpses, trace);
            case MIRROR: return new MirrorThing(pane, glimpses, trace);
            default: return new Thing(pane, glimpses, trace);
        }
    }

    /**
     * A PANE. A GLIMPSE is held as it is told: 10 times its DAY and its PLACE, or DARK_GLIMPSE. The ROW lies in a
     * ring, so that a DAY moves the face and no GLIMPSE: a TRIAL lets many DAYS go.
     */
    private static final class Pane {
        private final int[] ring = new int[GLIMPSES_MOST];
        private int face = 0;
        int kind = PANE;
        int count = 1;
        int place = NOWHERE;

        void become(int newKind, int n) {
            kind = newKind;
            count = n;
            place = NOWHERE;
            for (int i = 0; i < n; i++) {
                putGlimpse(i, DARK_GLIMPSE);
            }
        }

        int glimpseAt(int i) {
            return ring[(face + i) & RING_MASK];
        }

        private void putGlimpse(int i, int glimpse) {
            ring[(face + i) & RING_MASK] = glimpse;
        }

        void copyFrom(Pane other) {
            kind = other.kind;
            count = other.count;
            place = other.place;
            face = other.face;
            System.arraycopy(other.ring, 0, ring, 0, GLIMPSES_MOST);
        }

        /** This one becomes what a cut behind the k-th GLIMPSE of another one parts from it. */
        void becomeBehind(Pane other, int k) {
            become(PANE, other.count - k);
            for (int i = 0; i < count; i++) {
                putGlimpse(i, other.glimpseAt(k + i));
            }
        }

        void append(Pane other) {
            for (int i = 0; i < other.count; i++) {
                putGlimpse(count + i, other.glimpseAt(i));
            }
            count += other.count;
        }

        void turnAbout() {
            for (int i = 0, j = count - 1; i < j; i++, j--) {
                int swapped = glimpseAt(i);
                putGlimpse(i, glimpseAt(j));
                putGlimpse(j, swapped);
            }
        }

        int placeTold() {
            return place == NOWHERE ? NOWHERE_TOLD : place;
        }

        int last() {
            return glimpseAt(count - 1);
        }

        /** The GLIMPSE ahead of the last one; dark if there is none. */
        int aheadOfLast() {
            return count < 2 ? DARK_GLIMPSE : glimpseAt(count - 2);
        }

        boolean movesOn(int day) {
            switch (kind) {
                case THICK: return day % 2 == 0;
                case DOUBLE: return day % 4 == 0;
                default: return true;
            }
        }

        void passDay(int day) {
            if (!movesOn(day)) {
                return;
            }
            face = (face - 1) & RING_MASK;
            putGlimpse(0, place == NOWHERE ? DARK_GLIMPSE : glimpseOf(place, day));
        }
    }

    /** All that keep() keeps. */
    private static final class World {
        final int[] views = new int[PLACES * DAYS];
        final int[] loves = new int[LOOKERS * PLACES];
        final Pane[] panes = new Pane[PANES_MOST];
        int count = 0;
        int today = 0;
        int z = 1;

        World() {
            for (int i = 0; i < PANES_MOST; i++) {
                panes[i] = new Pane();
            }
            for (int i = 0; i < LOOKERS * PLACES; i++) {
                loves[i] = 1;
            }
        }

        /** As a new one, but for z. */
        void clear() {
            count = 0;
            today = 0;
            for (int i = 0; i < views.length; i++) {
                views[i] = 0;
            }
            for (int i = 0; i < loves.length; i++) {
                loves[i] = 1;
            }
        }

        void copyFrom(World other) {
            System.arraycopy(other.views, 0, views, 0, views.length);
            System.arraycopy(other.loves, 0, loves, 0, loves.length);
            for (int i = 0; i < other.count; i++) {
                panes[i].copyFrom(other.panes[i]);
            }
            count = other.count;
            today = other.today;
            z = other.z;
        }

        boolean isFull() {
            return count >= PANES_MOST;
        }

        /** A new last PANE, all dark; the caller has seen that it isn't full. */
        Pane addPane(int kind, int n) {
            Pane added = panes[count];
            added.become(kind, n);
            count++;
            return added;
        }

        /** The object stays behind the others, for the next PANE that comes. */
        void removePane(int pane) {
            Pane removed = panes[pane];
            count--;
            for (int i = pane; i < count; i++) {
                panes[i] = panes[i + 1];
            }
            panes[count] = removed;
        }

        void passDay() {
            for (int i = 0; i < count; i++) {
                panes[i].passDay(today);
            }
            today++;
        }

        /** How many GLIMPSES aren't dark. */
        int countLit() {
            int lit = 0;
            for (int i = 0; i < count; i++) {
                for (int j = 0; j < panes[i].count; j++) {
                    lit += panes[i].glimpseAt(j) == DARK_GLIMPSE ? 0 : 1;
                }
            }
            return lit;
        }

        /** The VIEW of a GLIMPSE as it is told now; 0 for a dark one. */
        int viewIn(int glimpse) {
            return glimpse == DARK_GLIMPSE ? 0 : views[viewSlot(glimpse % 10, glimpse / 10)];
        }

        int shownBy(Pane pane) {
            int view = viewIn(pane.last());
            switch (pane.kind) {
                case DARK: return view / 2;
                case RIPPLED: return view / 2 + viewIn(pane.aheadOfLast()) / 2;
                case MIRROR: return pane.last() == DARK_GLIMPSE ? 0 : VIEW_MOST - view;
                default: return view;
            }
        }

        int loveFor(int looker, int glimpse) {
            return glimpse == DARK_GLIMPSE ? 0 : loves[loveSlot(looker, glimpse % 10)];
        }

        /** The WORTH of a PANE by n, which uses the PANE up: it has gone the DAYS then. */
        int worthOf(Pane used, int looker, int n) {
            int sum = 0;
            int end = Math.min(DAYS, today + n);
            for (int day = today; day < end; day++) {
                sum += shownBy(used) * loveFor(looker, used.last());
                used.passDay(day);
            }
            return sum;
        }
    }

    /** THE TAPE, and what reads the TEXT on it. It reads on behind a FAULT, but only the first FAULT stays. */
    private static final class Quarry {
        final int[] bytes = new int[TAPE_MOST];
        int length = 0;
        private int at = 0;
        private int start = 0;
        private int fault = -1;

        void take(long eight, int n) {
            for (int i = 0; i < n; i++) {
                bytes[length] = (int) (eight >>> (8 * i)) & 255;
                length++;
            }
        }

        /** Uses THE TAPE up; answers the FAULT, or -1. */
        int readInto(World world) {
            at = 0;
            fault = -1;
            look();
            for (int told = 0; told < TAPE_MOST && at < length && fault < 0; told++) {
                readOne(world);
                look();
            }
            length = 0;
            return fault;
        }

        private void readOne(World world) {
            int kind = readKind();
            if (kind >= 0) {
                readPane(world, kind);
            } else if (isWord("view")) {
                readView(world);
            } else if (isWord("love")) {
                readLove(world);
            } else if (isWord("today")) {
                world.today = readNumber(0, DAYS);
            } else {
                fail();
            }
            needSign(';');
        }

        private int readKind() {
            if (isWord("pane")) {
                return PANE;
            }
            if (isWord("thick")) {
                return THICK;
            }
            if (isWord("double")) {
                return DOUBLE;
            }
            if (isWord("dark")) {
                return DARK;
            }
            if (isWord("rippled")) {
                return RIPPLED;
            }
            return isWord("mirror") ? MIRROR : -1;
        }

        private void readPane(World world, int kind) {
            if (world.isFull()) {
                fail();
                return;
            }
            Pane told = world.addPane(kind, readNumber(1, GLIMPSES_MOST));
            if (isWord("at")) {
                told.place = readNumber(0, PLACES - 1);
            }
        }

        private void readView(World world) {
            int place = readNumber(0, PLACES - 1);
            needWord("from");
            int day = readNumber(0, DAYS - 1);
            needSign(':');
            boolean isMore = true;
            while (isMore && day < DAYS) {
                world.views[viewSlot(place, day)] = readNumber(0, VIEW_MOST);
                isMore = isSign(',');
                day++;
            }
            if (isMore) {
                look();
                fail();
            }
        }

        private void readLove(World world) {
            int looker = readNumber(0, LOOKERS - 1);
            for (int place = 0; place < PLACES; place++) {
                world.loves[loveSlot(looker, place)] = readNumber(0, LOVE_MOST);
            }
        }

        /** Goes to the first byte of what comes next. */
        private void look() {
            while (at < length && bytes[at] == ' ') {
                at++;
            }
            start = at;
        }

        private void fail() {
            if (fault < 0) {
                fault = start;
            }
        }

        /** A NUMBER; the least one when it is not as told, so that what is done with it stays in bounds. */
        private int readNumber(int least, int most) {
            look();
            int value = 0;
            while (at < length && bytes[at] >= '0' && bytes[at] <= '9') {
                value = value * 10 + bytes[at] - '0';
                at++;
            }
            int digits = at - start;
            if (digits < 1 || digits > 2 || value < least || value > most) {
                fail();
                return least;
            }
            return value;
        }

        /** Whether the next NAME is this word; goes behind it only if it is. */
        private boolean isWord(String word) {
            look();
            int end = at;
            while (end < length && bytes[end] >= 'a' && bytes[end] <= 'z') {
                end++;
            }
            if (end - at != word.length()) {
                return false;
            }
            for (int i = 0; i < word.length(); i++) {
                if (bytes[at + i] != word.charAt(i)) {
                    return false;
                }
            }
            at = end;
            return true;
        }

        private void needWord(String word) {
            if (!isWord(word)) {
                fail();
            }
        }

        /** Whether the next byte is this sign; goes behind it only if it is. */
        private boolean isSign(char sign) {
            look();
            if (at >= length || bytes[at] != sign) {
                return false;
            }
            at++;
            return true;
        }

        private void needSign(char sign) {
            if (!isSign(sign)) {
                fail();
            }
        }
    }

    /** A SHEET's row. Longs stand in ints too: they come from ints, and only their lowest 32 bits are asked for. */
    private static final class Sheet {
        final int sort;
        final int[] items;

        Sheet(int sort, int n) {
            this.sort = sort;
            items = new int[n];
        }

        boolean has(int i) {
            return i >= 0 && i < items.length;
        }

        int narrowed(int v) {
            switch (sort) {
                case BYTES: return (byte) v;
                case SHORTS: return (short) v;
                default: return v;
            }
        }
    }

    /** THE TRACE of one act(). What would begin after a parting by 0 never ran, so it isn't noted. */
    private static final class Trace {
        final int[] bodies = new int[TRACE_MOST];
        int count = 0;
        boolean isParted = false;

        void clear() {
            count = 0;
            isParted = false;
        }

        void begin(int body) {
            if (!isParted && count < TRACE_MOST) {
                bodies[count] = body;
                count++;
            }
        }

        int part(int x, int by) {
            if (by == 0) {
                isParted = true;
                return 0;
            }
            return x / by;
        }
    }

    /** A PANE as a thing of KIND pane; the other KINDS are under it. */
    private static class Thing {
        final int n;
        final int a;
        final Trace trace;

        Thing(int n, int a, Trace trace) {
            this.n = n;
            this.a = a;
            this.trace = trace;
        }

        int shows(int x) {
            trace.begin(10);
            return x + n;
        }

        int moves(int x) {
            trace.begin(11);
            return shows(x) * 2;
        }

        int shares(int x) {
            trace.begin(12);
            return trace.part(x, a - n);
        }

        int tells(int x) {
            trace.begin(13);
            return moves(x) ^ a;
        }
    }

    private static class ThickThing extends Thing {
        ThickThing(int n, int a, Trace trace) {
            super(n, a, trace);
        }

        int moves(int x) {
            trace.begin(20);
            return super.moves(x) - a;
        }
    }

    private static final class DoubleThing extends ThickThing {
        DoubleThing(int n, int a, Trace trace) {
            super(n, a, trace);
        }

        int shares(int x) {
            trace.begin(50);
            return super.shares(x + 2) ^ 1;
        }

        int shows(int x) {
            trace.begin(51);
            return super.shows(x) - n;
        }
    }

    private static class DarkThing extends Thing {
        DarkThing(int n, int a, Trace trace) {
            super(n, a, trace);
        }

        int shows(int x) {
            trace.begin(30);
            return super.shows(x) * 3;
        }

        int tells(int x) {
            trace.begin(31);
            return super.tells(x) + shares(n);
        }
    }

    private static final class RippledThing extends DarkThing {
        RippledThing(int n, int a, Trace trace) {
            super(n, a, trace);
        }

        int shows(int x) {
            trace.begin(40);
            return 0 - super.shows(x);
        }

        int moves(int x) {
            trace.begin(41);
            return super.moves(x) + shows(n);
        }
    }

    private static final class MirrorThing extends Thing {
        MirrorThing(int n, int a, Trace trace) {
            super(n, a, trace);
        }

        int tells(int x) {
            trace.begin(60);
            return super.tells(x) * 2;
        }

        int shares(int x) {
            trace.begin(61);
            return super.shares(x) + shows(a);
        }
    }
}
