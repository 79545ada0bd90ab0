import java.util.ArrayList;
import java.util.List;
import java.util.function.Supplier;
import java.util.function.ToIntFunction;

/** Objects with something of everything in them, made by the same calls each time, and all that can be asked of one. */
final class Scene {
    /** A call with one number that is tried out. */
    interface Call {
        int of(SlowPanes x, int v);
    }

    /** An object is used for 512 calls at most: so not all is asked of the same one. */
    private static final int PARTS = 5;

    private Scene() {
    }

    /**
     * Three panes on day 6: 0 rippled in place 1 (glimpses 51, 41, 31), 1 dark in place 0 (50, 40), 2 mirror in
     * place 2 (52, 43, 33, 23, then 12 dark ones). Four rows, sheets 0 (bytes), 1 (ints) and 3 (longs, none of
     * them), shelves 0 (pane 1), 1 (sheet 0) and 3 (pane 2), a trace of three, seven bytes; another state is kept.
     */
    static SlowPanes some() {
        SlowPanes x = new SlowPanes();
        Check.quarry(x, "view 0 from 0:5,99,1,0,64,37;view 1 from 0:10,21,33,47,58,60;view 3 from 47:9,8,7;"
            + "love 0 3 9 0 2;love 2 0 5 6 7;rippled 3 at 1;thick 2 at 0;mirror 16 at 3;today 2;");
        x.days(3);
        x.seed(77);
        x.keep();
        x.view(2, 9, 41);
        x.love(1, 1, 4);
        x.cast(1, 3);
        x.hang(2, 2);
        x.seed(-9);
        x.days(1);
        host(x);
        x.prove(0, 4);
        x.alterRow(1, 1, 55);
        x.act(0, 1, 7);
        Check.feed(x, "dark 4;");
        return x;
    }

    private static void host(SlowPanes x) {
        x.sheet(0, 0, 3);
        x.put(0, 0, -5);
        x.put(0, 1, 50);
        x.put(0, 2, 120);
        x.sheet(1, 2, 2);
        x.put(1, 1, 70000);
        x.sheet(3, 3, 0);
        x.shelf(0, 0, 1);
        x.shelf(1, 1, 0);
        x.shelf(3, 0, 2);
    }

    /** Some, and three panes more: 3 of 16 glimpses, 4 of one, 5 of two. */
    static SlowPanes six() {
        SlowPanes x = some();
        x.pane(0, 16);
        x.pane(3, 1);
        x.pane(4, 2);
        return x;
    }

    /** Some, with 199 bytes on the tape. */
    static SlowPanes fed() {
        SlowPanes x = some();
        for (int i = 0; i < 24; i++) {
            x.feed(0x2020202020202020L, 8);
        }
        return x;
    }

    /** Some, with nothing on the tape. */
    static SlowPanes unfed() {
        SlowPanes x = some();
        x.quarry();
        x.again();
        x.prove(0, 3);
        return x;
    }

    /** Some, in the end. */
    static SlowPanes ended() {
        SlowPanes x = some();
        x.days(50);
        return x;
    }

    /** The call gets this answer, and all is then as if it had not been made. */
    static void changesNothing(String what, int due, Supplier<SlowPanes> scene, ToIntFunction<SlowPanes> call) {
        for (int part = 0; part < PARTS; part++) {
            SlowPanes x = scene.get();
            Check.due(what, call.applyAsInt(x), due);
            Check.isTrue(what + ": nothing is changed", asked(x, part).equals(asked(scene.get(), part)));
        }
    }

    /** The least and the greatest number with their answers; the first beyond them, and those far off, are BAD. */
    static void range(String what, int least, int dueOfLeast, int greatest, int dueOfGreatest, Call call) {
        Check.due(what + ": the least, " + least, call.of(some(), least), dueOfLeast);
        Check.due(what + ": the greatest, " + greatest, call.of(some(), greatest), dueOfGreatest);
        outside(what, SlowPanes.BAD, least, greatest, call);
    }

    /** The first numbers beyond the least and the greatest, and those far off, are refused. */
    static void outside(String what, int due, int least, int greatest, Call call) {
        int[] values = {least - 1, greatest + 1, Integer.MIN_VALUE, Integer.MAX_VALUE};
        for (int v : values) {
            changesNothing(what + ": " + v, due, Scene::some, x -> call.of(x, v));
        }
    }

    private static List<Integer> asked(SlowPanes x, int part) {
        List<Integer> answers = new ArrayList<>();
        switch (part) {
            case 0:
                askPanes(x, answers);
                askRows(x, answers);
                break;
            case 1:
                askViews(x, answers);
                break;
            case 2:
                askHost(x, answers);
                break;
            case 3:
                answers.add(x.again());
                askPanes(x, answers);
                break;
            default:
                answers.add(x.again());
                askViews(x, answers);
                break;
        }
        return answers;
    }

    private static void askPanes(SlowPanes x, List<Integer> answers) {
        answers.add(x.today());
        for (int what = 0; what < 5; what++) {
            answers.add(x.many(what));
        }
        for (int pane = 0; pane < 6; pane++) {
            for (int what = 0; what < 5; what++) {
                answers.add(x.paneOf(pane, what));
            }
            for (int i = 0; i < 17; i++) {
                answers.add(x.glimpse(pane, i));
            }
        }
        for (int looker = 0; looker < 3; looker++) {
            for (int place = 0; place < 4; place++) {
                answers.add(x.love(looker, place, 0));
            }
        }
        answers.add(x.seed(0));
    }

    private static void askRows(SlowPanes x, List<Integer> answers) {
        for (int i = 0; i < 21; i++) {
            for (int what = 0; what < 3; what++) {
                answers.add(x.row(i, what));
            }
        }
    }

    private static void askViews(SlowPanes x, List<Integer> answers) {
        for (int place = 0; place < 4; place++) {
            for (int day = 0; day < 50; day++) {
                answers.add(x.viewOf(place, day));
            }
        }
    }

    private static void askHost(SlowPanes x, List<Integer> answers) {
        for (int i = 0; i < 12; i++) {
            answers.add(x.trace(i));
        }
        for (int sheet = 0; sheet < 4; sheet++) {
            for (int sort = 0; sort < 4; sort++) {
                for (int i = 0; i < 4; i++) {
                    answers.add(x.item(sheet, sort, i));
                }
            }
        }
        for (int shelf = 0; shelf < 4; shelf++) {
            for (int as = 0; as < 14; as++) {
                answers.add(x.taken(shelf, as));
            }
        }
        answers.add(x.quarry());
        answers.add(x.paneOf(0, 0));
        answers.add(x.paneOf(0, 1));
    }
}
