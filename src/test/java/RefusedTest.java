import java.util.ArrayList;
import java.util.List;
import java.util.function.Supplier;
import java.util.function.ToLongFunction;

/**
 * "What answers false or NONE changes nothing but what is said": of two objects with the same calls behind
 * them one gets a call that is refused, and both then answer alike, whatever is asked and done.
 */
public final class RefusedTest {
    private static final int MIN = Integer.MIN_VALUE;
    private static final int MAX = Integer.MAX_VALUE;
    private static final int[] ROOM = {0, 128};

    record Call(String name, ToLongFunction<SectorWalk> answer) { }

    private final Due due = new Due();

    public static void main(String[] args) {
        RefusedTest test = new RefusedTest();
        test.inEveryState("new", SectorWalk::new);
        test.inEveryState("draft", RefusedTest::draft);
        test.inEveryState("wrong draft", RefusedTest::wrongDraft);
        test.inEveryState("built", RefusedTest::built);
        test.inEveryState("started", RefusedTest::started);
        test.inEveryState("stopped", RefusedTest::stopped);
        test.inEveryState("played", RefusedTest::played);
        test.inEveryState("built again", RefusedTest::builtAgain);
        test.inEveryState("full", RefusedTest::full);
        test.inSomeStates();
        test.due.end();
    }

    private static SectorWalk draft() {
        return Maps.draft(new int[][] {{10, -50}, {10, 50}, {30, -50}, {30, 50}}, new int[][] {ROOM, ROOM},
            new int[][] {{0, 1, 0, 1}, {2, 3, 1, -1}});
    }

    private static SectorWalk wrongDraft() {
        SectorWalk x = draft();
        Maps.need(x.wall(1, 0, 0, 0) == 2 && x.build() == 2);
        return x;
    }

    private static SectorWalk built() {
        SectorWalk x = draft();
        Maps.need(x.build() == -1);
        return x;
    }

    private static SectorWalk started() {
        SectorWalk x = built();
        Maps.need(x.start(-5, 3, 60, 1));
        return x;
    }

    private static SectorWalk stopped() {
        SectorWalk x = started();
        Maps.need(x.step(20, 0, 4) == 1 && x.step(20, 0, 0) == 2);
        return x;
    }

    private static SectorWalk played() {
        SectorWalk x = started();
        x.input(20, 0, 4);
        x.input(64, 5, 0);
        x.input(-64, 0, 0);
        Maps.need(x.play(3) == 1);
        return x;
    }

    private static SectorWalk builtAgain() {
        SectorWalk x = played();
        Maps.need(x.build() == -1);
        return x;
    }

    private static SectorWalk full() {
        SectorWalk x = new SectorWalk();
        for (int i = 0; i < 64; i++) {
            x.vertex(i + 1, i % 2 == 0 ? -10 : 10);
        }
        for (int i = 0; i < 16; i++) {
            x.sector(i, 128);
        }
        for (int i = 0; i < 63; i++) {
            x.wall(i, i + 1, i % 16, 0);
        }
        x.wall(63, 61, 15, -1);
        for (int i = 0; i < 256; i++) {
            x.input(i % 64, 0, 1);
        }
        Maps.need(x.build() == -1 && x.start(-3, 0, 0, 0) && x.step(32, 0, 0) == 1);
        return x;
    }

    private static long of(boolean answer) {
        return answer ? 1 : 0;
    }

    /** Calls that are wrong whatever was called before. */
    private static List<Call> wrongEverywhere() {
        List<Call> calls = new ArrayList<>();
        for (int far : new int[] {-2001, 2001, MIN, MAX}) {
            calls.add(new Call("vertex(" + far + ", 7)", x -> x.vertex(far, 7)));
            calls.add(new Call("vertex(7, " + far + ")", x -> x.vertex(7, far)));
        }
        for (int[] s : new int[][] {{-257, 0}, {0, 257}, {5, 5}, {5, 4}, {MIN, MAX}}) {
            calls.add(new Call("sector(" + s[0] + ", " + s[1] + ")", x -> x.sector(s[0], s[1])));
        }
        for (int far : new int[] {-1, 64, MIN, MAX}) {
            calls.add(new Call("wall(" + far + ", 0, 0, 0)", x -> x.wall(far, 0, 0, 0)));
            calls.add(new Call("wall(0, " + far + ", 0, 0)", x -> x.wall(0, far, 0, 0)));
            calls.add(new Call("wall(0, 1, " + far + ", 0)", x -> x.wall(0, 1, far, 0)));
            int back = far == -1 ? -2 : far;
            calls.add(new Call("wall(0, 1, 0, " + back + ")", x -> x.wall(0, 1, 0, back)));
        }
        calls.add(new Call("wall(1, 1, 0, 0)", x -> x.wall(1, 1, 0, 0)));
        for (int[] s : new int[][] {{3001, 1, 1, 0}, {1, -3001, 1, 0}, {1, 1, 64, 0}, {1, 1, -1, 0}, {1, 1, 1, -1},
            {1, 1, 1, 16}, {MAX, 1, 1, 0}, {1, MIN, 1, 0}, {1, 1, MIN, 0}, {1, 1, 1, MAX}}) {
            calls.add(new Call("start(" + s[0] + ", " + s[1] + ", " + s[2] + ", " + s[3] + ")",
                x -> of(x.start(s[0], s[1], s[2], s[3]))));
        }
        for (int[] s : new int[][] {{65, 1, 1}, {-65, 1, 1}, {1, 65, 1}, {1, -65, 1}, {1, 1, 17}, {1, 1, -17},
            {MIN, 1, 1}, {1, MAX, 1}, {1, 1, MIN}}) {
            String amounts = "(" + s[0] + ", " + s[1] + ", " + s[2] + ")";
            calls.add(new Call("input" + amounts, x -> x.input(s[0], s[1], s[2])));
            calls.add(new Call("step" + amounts, x -> x.step(s[0], s[1], s[2])));
        }
        for (int n : new int[] {-1, 257, MIN, MAX}) {
            calls.add(new Call("undo(" + n + ")", x -> of(x.undo(n))));
            calls.add(new Call("play(" + n + ")", x -> x.play(n)));
        }
        for (int n : new int[] {-1, 64, MIN, MAX}) {
            calls.add(new Call("crossed(" + n + ")", x -> x.crossed(n)));
            calls.add(new Call("look(" + (n < 0 ? n : 9) + ")", x -> x.look(n < 0 ? n : 9)));
        }
        return calls;
    }

    private void inEveryState(String state, Supplier<SectorWalk> maker) {
        for (Call call : wrongEverywhere()) {
            refused(state, maker, call);
        }
    }

    /** Calls that are wrong because of what was called before. */
    private void inSomeStates() {
        refused("new", SectorWalk::new, new Call("drop()", x -> of(x.drop())));
        refused("new", SectorWalk::new, new Call("undo(1)", x -> of(x.undo(1))));
        refused("built", RefusedTest::built, new Call("vertex there", x -> x.vertex(30, -50)));
        Call start = new Call("start without a map", x -> of(x.start(0, 0, 0, 0)));
        refused("new", SectorWalk::new, start);
        refused("draft", RefusedTest::draft, start);
        refused("wrong draft", RefusedTest::wrongDraft, start);
        Call step = new Call("step without START", x -> x.step(1, 1, 1));
        Call play = new Call("play without START", x -> x.play(0));
        for (Call call : List.of(step, play)) {
            refused("draft", RefusedTest::draft, call);
            refused("built", RefusedTest::built, call);
            refused("built again", RefusedTest::builtAgain, call);
        }
        refused("played", RefusedTest::played, new Call("play(4)", x -> x.play(4)));
        refused("played", RefusedTest::played, new Call("undo(4)", x -> of(x.undo(4))));
        refused("played", RefusedTest::played, new Call("start in no sector", x -> of(x.start(0, 0, 0, 2))));
        refused("full", RefusedTest::full, new Call("vertex 64", x -> x.vertex(99, 99)));
        refused("full", RefusedTest::full, new Call("sector 16", x -> x.sector(0, 99)));
        refused("full", RefusedTest::full, new Call("wall 64", x -> x.wall(3, 9, 0, -1)));
        refused("full", RefusedTest::full, new Call("input 257", x -> x.input(1, 1, 1)));
    }

    private void refused(String state, Supplier<SectorWalk> maker, Call call) {
        String when = state + ", " + call.name;
        SectorWalk asked = maker.get();
        long answer = call.answer.applyAsLong(asked);
        due.is(when + " is refused", true, answer == -1 || answer == 0);
        List<Long> got = afterwards(asked);
        List<Long> want = afterwards(maker.get());
        for (int i = 0; i < want.size(); i++) {
            due.is(when + ", then answer " + i, want.get(i), got.get(i));
        }
    }

    /**
     * What an object answers to reading and to acting; START, INPUTS, MAP and DRAFT all show in it. With the
     * calls that make the full state these are just below the 512 that are promised.
     */
    private static List<Long> afterwards(SectorWalk x) {
        List<Long> answers = new ArrayList<>();
        read(x, answers);
        answers.add((long) x.step(30, 0, 3));
        read(x, answers);
        answers.add((long) x.play(Math.min(x.look(6), 40)));
        read(x, answers);
        answers.add((long) x.build());
        answers.add(of(x.start(0, 0, 0, 0)));
        answers.add((long) x.play(x.look(6)));
        read(x, answers);
        answers.add(of(x.drop()));
        answers.add((long) x.vertex(40, 40));
        answers.add((long) x.vertex(40, 41));
        answers.add((long) x.sector(3, 100));
        answers.add((long) x.wall(0, 1, 0, -1));
        answers.add((long) x.input(9, 9, 9));
        answers.add(of(x.undo(1)));
        answers.add((long) x.build());
        answers.add(of(x.start(5, 0, 0, 0)));
        answers.add((long) x.step(30, 0, 0));
        read(x, answers);
        return answers;
    }

    private static void read(SectorWalk x, List<Long> answers) {
        for (int which = 0; which <= 8; which++) {
            answers.add((long) x.look(which));
        }
        for (int what = 0; what <= 3; what++) {
            answers.add((long) x.walker(what));
        }
        for (int i = 0; i <= 3; i++) {
            answers.add((long) x.crossed(i));
        }
        answers.add((long) x.stopper());
    }
}
