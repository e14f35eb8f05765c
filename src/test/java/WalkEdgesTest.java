/**
 * A test for each sentence of the document that names a boundary case of START, the INPUTS and the walker, in
 * the order of the document: promises 8 to 16, without the STEP itself, which StepEdgesTest has. The label of
 * each answer begins with the number of its promise.
 */
public final class WalkEdgesTest {
    private static final int MIN = Integer.MIN_VALUE;
    private static final int MAX = Integer.MAX_VALUE;
    private static final int[] ROOM = {0, 128};

    public static void main(String[] args) {
        Due due = new Due();
        startWithoutAMap(due);
        startWhereXOrYIsNotAsSaid(due);
        startAtAnAngleThatIsNone(due);
        startInNoSuchSector(due);
        startAgain(due);
        inputThatIsNotAsSaid(due);
        inputAtItsBounds(due);
        inputWhenThereAre256(due);
        inputNeedsNoMap(due);
        undoNone(due);
        undoAll(due);
        undoMoreThanThereAre(due);
        undoBelowNone(due);
        undoLeavesTheWalker(due);
        playWithoutStart(due);
        playNoSuchK(due);
        playNothing(due);
        playAll256(due);
        playCountsWhatWentNoWay(due);
        playFromStartOn(due);
        stepWithoutStart(due);
        stepThatIsNotAsSaid(due);
        stepIsNoInput(due);
        crossedNoneSuch(due);
        crossedFromTheLatestStartOrPlayOn(due);
        crossedIfNoMapWasBuiltSince(due);
        stopperIsTheFirst(due);
        stopperWhenThereIsNone(due);
        walkerNowhere(due);
        walkerNoSuchWhat(due);
        lookWithoutAMap(due);
        lookAtNothingElse(due);
        lookAtTheMostThereCanBe(due);
        lookAtMapsBuilt(due);
        wholeLife(due);
        due.end();
    }

    private static void isAt(Due due, String when, SectorWalk x, int... want) {
        for (int what = 0; what < want.length; what++) {
            due.is(when + ": walker " + what, want[what], x.walker(what));
        }
    }

    /** A wall without back at x = 10, and one that lets through at x = 20. */
    private static SectorWalk hall() {
        return Maps.built(new int[][] {{10, -50}, {10, 50}, {20, -50}, {20, 50}}, new int[][] {ROOM, ROOM},
            new int[][] {{0, 1, 0, -1}, {2, 3, 1, 0}});
    }

    private static void startWithoutAMap(Due due) {
        SectorWalk x = Maps.draft(new int[][] {{0, 0}, {9, 0}}, new int[][] {ROOM},
            new int[][] {{0, 1, 0, 0}, {0, 1, 0, 0}});
        due.is("8 no map yet", false, x.start(0, 0, 0, 0));
        due.is("8 not right", 1, x.build());
        due.is("8 no map still", false, x.start(0, 0, 0, 0));
        due.is("8 nobody there", 0, x.look(7));
        x.clear();
        x.build();
        due.is("8 a map without a sector", false, x.start(0, 0, 0, 0));
        x.sector(0, 1);
        due.is("8 a sector only of the draft", false, x.start(0, 0, 0, 0));
        x.build();
        due.is("8 a map with a sector", true, x.start(0, 0, 0, 0));
    }

    private static void startWhereXOrYIsNotAsSaid(Due due) {
        SectorWalk x = Maps.built(new int[][] {}, new int[][] {ROOM}, new int[][] {});
        for (int far : new int[] {-3001, 3001, -65536, 65536, MIN, MAX, MIN + 3000, MAX - 3000}) {
            due.is("8 x " + far, false, x.start(far, 0, 0, 0));
            due.is("8 y " + far, false, x.start(0, far, 0, 0));
        }
        due.is("8 nobody there", 0, x.look(7));
        for (int[] at : new int[][] {{-3000, -3000}, {3000, -3000}, {-3000, 3000}, {3000, 3000}, {2001, -2001}}) {
            due.is("8 the outermost place", true, x.start(at[0], at[1], 0, 0));
            isAt(due, "8 the outermost place", x, at[0], at[1], 0, 0);
        }
    }

    private static void startAtAnAngleThatIsNone(Due due) {
        SectorWalk x = Maps.built(new int[][] {}, new int[][] {ROOM}, new int[][] {});
        for (int far : new int[] {-1, 64, 65, -64, 128, MIN, MAX}) {
            due.is("8 angle " + far, false, x.start(0, 0, far, 0));
        }
        due.is("8 nobody there", 0, x.look(7));
        due.is("8 angle 0", true, x.start(0, 0, 0, 0));
        due.is("8 angle 63", true, x.start(0, 0, 63, 0));
        due.is("8 angle 63 it is", 63, x.walker(2));
    }

    private static void startInNoSuchSector(Due due) {
        SectorWalk x = Maps.built(new int[][] {}, new int[][] {ROOM, ROOM, ROOM}, new int[][] {});
        for (int far : new int[] {-1, 3, 15, 16, 17, MIN, MAX}) {
            due.is("8 sector " + far, false, x.start(0, 0, 0, far));
        }
        due.is("8 nobody there", 0, x.look(7));
        due.is("8 the first sector", true, x.start(0, 0, 0, 0));
        due.is("8 the last sector", true, x.start(0, 0, 0, 2));
        x.clear();
        due.is("8 the last sector of the map, none of the draft", true, x.start(0, 0, 0, 2));
        x.sector(0, 1);
        x.build();
        due.is("8 no more a sector of the map", false, x.start(0, 0, 0, 1));
    }

    private static void startAgain(Due due) {
        SectorWalk x = hall();
        x.input(2, 0, 0);
        x.start(0, 0, 0, 0);
        x.step(64, 0, 1);
        due.is("8 again", true, x.start(-3000, 3000, 63, 1));
        isAt(due, "8 again", x, -3000, 3000, 63, 1);
        due.is("8 refused", false, x.start(3001, 0, 0, 0));
        isAt(due, "8 refused", x, -3000, 3000, 63, 1);
        due.is("8 play from the later START", 0, x.play(0));
        isAt(due, "8 play from the later START", x, -3000, 3000, 63, 1);
    }

    private static void inputThatIsNotAsSaid(Due due) {
        SectorWalk x = new SectorWalk();
        for (int far : new int[] {-65, 65, -256, 256, MIN, MAX, MIN + 64, MAX - 64}) {
            due.is("9 ahead " + far, -1, x.input(far, 0, 0));
            due.is("9 aside " + far, -1, x.input(0, far, 0));
            due.is("9 all " + far, -1, x.input(far, far, far));
        }
        for (int far : new int[] {-17, 17, -64, 64, MIN, MAX, MIN + 16, MAX - 16}) {
            due.is("9 turn " + far, -1, x.input(0, 0, far));
        }
        due.is("9 none was kept", 0, x.look(6));
        due.is("9 the first one that is", 1, x.input(1, 1, 1));
    }

    private static void inputAtItsBounds(Due due) {
        SectorWalk x = Maps.field(0, 0, 32);
        due.is("9 ahead 64", 1, x.input(64, 0, 0));
        due.is("9 ahead -64", 2, x.input(-64, 0, 0));
        due.is("9 aside 64", 3, x.input(0, 64, 0));
        due.is("9 aside -64", 4, x.input(0, -64, 0));
        due.is("9 turn 16", 5, x.input(0, 0, 16));
        due.is("9 turn -16", 6, x.input(0, 0, -16));
        due.is("9 nothing", 7, x.input(0, 0, 0));
        int[][] want = {
            {0, 0, 32}, {-64, 0, 32}, {0, 0, 32}, {0, 64, 32}, {0, 0, 32}, {0, 0, 48}, {0, 0, 32}, {0, 0, 32},
        };
        for (int k = 0; k < want.length; k++) {
            due.is("9 kept as they were, play " + k, 0, x.play(k));
            isAt(due, "9 kept as they were, play " + k, x, want[k]);
        }
    }

    private static void inputWhenThereAre256(Due due) {
        SectorWalk x = new SectorWalk();
        for (int i = 1; i <= 256; i++) {
            due.is("9 input " + i, i, x.input(0, 0, 1));
        }
        due.is("9 the 257th", -1, x.input(0, 0, 1));
        due.is("9 the 257th again", -1, x.input(64, 64, 16));
        due.is("9 there are 256", 256, x.look(6));
        x.undo(1);
        due.is("9 the 256th anew", 256, x.input(0, 0, 2));
        due.is("9 the 257th still", -1, x.input(0, 0, 1));
        x.sector(0, 1);
        x.build();
        x.start(0, 0, 0, 0);
        x.play(256);
        due.is("9 255 by 1 and one by 2", 257 % 64, x.walker(2));
    }

    private static void inputNeedsNoMap(Due due) {
        SectorWalk x = new SectorWalk();
        due.is("9 without a map", 1, x.input(3, 0, 0));
        x.clear();
        due.is("9 behind clear", 2, x.input(3, 0, 0));
        x.sector(0, 1);
        x.build();
        due.is("9 behind build", 3, x.input(3, 0, 0));
        x.start(0, 0, 0, 0);
        due.is("9 behind start", 4, x.input(3, 0, 0));
        due.is("9 the walker does not move by it", 0, x.walker(0));
        due.is("9 all of them", 0, x.play(4));
        due.is("9 all of them: x", 12, x.walker(0));
    }

    private static void undoNone(Due due) {
        SectorWalk x = new SectorWalk();
        due.is("10 none of none", true, x.undo(0));
        x.input(1, 0, 0);
        due.is("10 none of one", true, x.undo(0));
        due.is("10 one is left", 1, x.look(6));
    }

    private static void undoAll(Due due) {
        SectorWalk x = Maps.field(0, 0, 0);
        for (int i = 0; i < 256; i++) {
            x.input(1, 0, 0);
        }
        due.is("10 all but one", true, x.undo(255));
        due.is("10 one is left", 1, x.look(6));
        due.is("10 that one", true, x.undo(1));
        due.is("10 none is left", 0, x.look(6));
        due.is("10 none to play", -1, x.play(1));
        due.is("10 the first anew", 1, x.input(9, 0, 0));
        due.is("10 play the first anew", 0, x.play(1));
        due.is("10 the first anew: x", 9, x.walker(0));
    }

    private static void undoMoreThanThereAre(Due due) {
        SectorWalk x = new SectorWalk();
        due.is("10 one of none", false, x.undo(1));
        x.input(1, 0, 0);
        x.input(2, 0, 0);
        for (int n : new int[] {3, 4, 256, 257, MAX}) {
            due.is("10 " + n + " of 2", false, x.undo(n));
        }
        due.is("10 two are left", 2, x.look(6));
        due.is("10 two of 2", true, x.undo(2));
        due.is("10 two of none", false, x.undo(2));
    }

    private static void undoBelowNone(Due due) {
        SectorWalk x = new SectorWalk();
        due.is("10 -1 of none", false, x.undo(-1));
        x.input(1, 0, 0);
        x.input(2, 0, 0);
        for (int n : new int[] {-1, -2, -254, -256, MIN, MIN + 1}) {
            due.is("10 " + n + " of 2", false, x.undo(n));
        }
        due.is("10 two are left", 2, x.look(6));
        due.is("10 the third is the third", 3, x.input(3, 0, 0));
    }

    private static void undoLeavesTheWalker(Due due) {
        SectorWalk x = hall();
        x.start(0, 0, 0, 1);
        x.input(5, 0, 0);
        x.input(9, 0, 2);
        x.play(2);
        due.is("10 both go", true, x.undo(2));
        isAt(due, "10 the walker stays", x, 5, 0, 2, 1);
        due.is("10 crossed stays", 0, x.crossed(0));
        due.is("10 the stopper stays", 0, x.stopper());
        due.is("10 somewhere", 1, x.look(7));
    }

    private static void playWithoutStart(Due due) {
        SectorWalk x = new SectorWalk();
        x.input(1, 0, 0);
        due.is("11 no map", -1, x.play(1));
        due.is("11 no map, nothing", -1, x.play(0));
        x.sector(0, 1);
        x.build();
        due.is("11 no START", -1, x.play(1));
        x.start(0, 0, 0, 9);
        due.is("11 a refused START", -1, x.play(1));
        x.start(0, 0, 0, 0);
        due.is("11 a START", 0, x.play(1));
        x.build();
        due.is("11 START gone by build", -1, x.play(1));
        due.is("11 nowhere", 100000, x.walker(0));
    }

    private static void playNoSuchK(Due due) {
        SectorWalk x = Maps.field(0, 0, 0);
        due.is("11 1 of none", -1, x.play(1));
        x.input(1, 0, 0);
        x.input(2, 0, 0);
        x.step(64, 0, 7);
        for (int k : new int[] {-1, 3, 256, 257, MIN, MAX}) {
            due.is("11 " + k + " of 2", -1, x.play(k));
            isAt(due, "11 " + k + " of 2", x, 64 * 198 / 256, 64 * 162 / 256, 7, 0);
        }
        due.is("11 2 of 2", 0, x.play(2));
        x.undo(1);
        due.is("11 2 of 1", -1, x.play(2));
        due.is("11 the walker is behind both still", 3, x.walker(0));
    }

    private static void playNothing(Due due) {
        SectorWalk x = hall();
        x.start(4, 5, 6, 1);
        due.is("11 nothing, without inputs", 0, x.play(0));
        isAt(due, "11 nothing, without inputs", x, 4, 5, 6, 1);
        x.input(1, 0, 0);
        x.step(64, 0, -6);
        due.is("11 nothing", 0, x.play(0));
        isAt(due, "11 nothing", x, 4, 5, 6, 1);
        due.is("11 nothing crossed", -1, x.crossed(0));
        due.is("11 nothing stops", -1, x.stopper());
    }

    private static void playAll256(Due due) {
        SectorWalk x = hall();
        x.start(0, 0, 0, 1);
        for (int i = 0; i < 256; i++) {
            x.input(10, 0, 0);
        }
        due.is("11 all 256 stopped", 256, x.play(256));
        due.is("11 257", -1, x.play(257));
        isAt(due, "11 all 256 stopped", x, 0, 0, 0, 1);
        due.is("11 255 of them", 255, x.play(255));
        x.start(2000, 0, 0, 1);
        due.is("11 up to the edge", 156, x.play(256));
        isAt(due, "11 up to the edge", x, 3000, 0, 0, 1);
    }

    private static void playCountsWhatWentNoWay(Due due) {
        SectorWalk x = hall();
        x.start(0, 0, 0, 1);
        int[][] inputs = {{0, 0, 0}, {0, 0, 16}, {0, 0, -16}, {9, 0, 0}, {1, 0, 0}, {1, 0, 1}, {-1, 0, 0}, {64, 0, -1}};
        for (int[] i : inputs) {
            x.input(i[0], i[1], i[2]);
        }
        // The step by 1 at angle 1 has an M of (0, 0); that by -1 has one of (-1, -1).
        int[] want = {0, 0, 0, 0, 0, 1, 1, 1, 2};
        for (int k = 0; k < want.length; k++) {
            due.is("11 went no way, of " + k, want[k], x.play(k));
        }
        isAt(due, "11 went no way", x, 8, -1, 0, 1);
    }

    private static void playFromStartOn(Due due) {
        SectorWalk x = hall();
        x.start(15, 0, 0, 0);
        x.input(10, 0, 0);
        x.input(0, 0, 5);
        due.is("11 both", 0, x.play(2));
        isAt(due, "11 both", x, 25, 0, 5, 1);
        due.is("11 both again", 0, x.play(2));
        isAt(due, "11 both again", x, 25, 0, 5, 1);
        due.is("11 the first alone", 0, x.play(1));
        isAt(due, "11 the first alone", x, 25, 0, 0, 1);
        due.is("11 a step goes on from there", 1, x.step(1, 0, 0));
        isAt(due, "11 a step goes on from there", x, 26, 0, 0, 1);
        due.is("11 none", 0, x.play(0));
        isAt(due, "11 none", x, 15, 0, 0, 0);
    }

    private static void stepWithoutStart(Due due) {
        SectorWalk x = new SectorWalk();
        due.is("12 no map", -1, x.step(1, 0, 0));
        due.is("12 no map, nothing", -1, x.step(0, 0, 0));
        x.sector(0, 1);
        x.build();
        due.is("12 no START", -1, x.step(1, 0, 0));
        x.start(0, 0, 64, 0);
        due.is("12 a refused START", -1, x.step(1, 0, 0));
        x.start(0, 0, 0, 0);
        due.is("12 a START", 1, x.step(1, 0, 0));
        x.build();
        due.is("12 START gone by build", -1, x.step(1, 0, 0));
    }

    private static void stepThatIsNotAsSaid(Due due) {
        SectorWalk x = Maps.field(1, 2, 3);
        for (int far : new int[] {-65, 65, -256, 256, MIN, MAX, MIN + 64, MAX - 64}) {
            due.is("12 ahead " + far, -1, x.step(far, 0, 1));
            due.is("12 aside " + far, -1, x.step(0, far, 1));
        }
        for (int far : new int[] {-17, 17, -64, 64, MIN, MAX, MIN + 16, MAX - 16}) {
            due.is("12 turn " + far, -1, x.step(1, 0, far));
        }
        isAt(due, "12 not as said", x, 1, 2, 3, 0);
        x.start(0, 0, 0, 0);
        int[][] bounds = {{64, 0, 0}, {-64, 0, 0}, {0, 64, 0}, {0, -64, 0}};
        int[][] want = {{64, 0}, {0, 0}, {0, -64}, {0, 0}};
        for (int i = 0; i < bounds.length; i++) {
            due.is("12 at a bound " + i, 1, x.step(bounds[i][0], bounds[i][1], bounds[i][2]));
            isAt(due, "12 at a bound " + i, x, want[i]);
        }
        due.is("12 turn 16", 0, x.step(0, 0, 16));
        due.is("12 turn -16", 0, x.step(0, 0, -16));
    }

    private static void stepIsNoInput(Due due) {
        SectorWalk x = Maps.field(0, 0, 0);
        for (int i = 0; i < 256; i++) {
            x.input(0, 0, 0);
        }
        due.is("12 with all inputs", 1, x.step(1, 0, 0));
        due.is("12 256 still", 256, x.look(6));
        x.undo(256);
        due.is("12 with none", 1, x.step(1, 0, 0));
        due.is("12 none still", 0, x.look(6));
        due.is("12 two steps", 2, x.walker(0));
    }

    private static void crossedNoneSuch(Due due) {
        SectorWalk x = hall();
        x.start(0, 0, 0, 1);
        x.step(30, 0, 0);
        due.is("13 the first", 0, x.crossed(0));
        due.is("13 the second", 1, x.crossed(1));
        for (int i : new int[] {-1, 2, 3, 63, 64, 65, MIN, MAX}) {
            due.is("13 none such " + i, -1, x.crossed(i));
        }
        x.step(5, 0, 0);
        due.is("13 none at all", -1, x.crossed(0));
        x.step(5, 0, 0);
        due.is("13 one", 0, x.crossed(0));
        due.is("13 no second of before", -1, x.crossed(1));
    }

    private static void crossedFromTheLatestStartOrPlayOn(Due due) {
        SectorWalk x = hall();
        due.is("13 no step yet", -1, x.crossed(0));
        x.start(15, 0, 0, 0);
        due.is("13 start", -1, x.crossed(0));
        x.step(10, 0, 0);
        due.is("13 step", 1, x.crossed(0));
        due.is("13 a refused step", -1, x.step(65, 0, 0));
        due.is("13 a refused play", -1, x.play(1));
        due.is("13 a refused start", false, x.start(0, 0, 0, 2));
        due.is("13 the latest is the same", 1, x.crossed(0));
        x.play(0);
        due.is("13 play of nothing", -1, x.crossed(0));
        x.step(10, 0, 0);
        x.start(15, 0, 0, 0);
        due.is("13 start behind a step", -1, x.crossed(0));
        x.input(10, 0, 0);
        x.input(0, 0, 1);
        x.play(1);
        due.is("13 play of one", 1, x.crossed(0));
        x.play(2);
        due.is("13 play of two, the latest of nothing", -1, x.crossed(0));
        x.play(1);
        x.step(0, 0, 0);
        due.is("13 a step of nothing", -1, x.crossed(0));
    }

    private static void crossedIfNoMapWasBuiltSince(Due due) {
        SectorWalk x = hall();
        x.start(0, 0, 0, 0);
        x.step(10, 0, 0);
        x.wall(0, 1, 0, 0);
        due.is("13 not built", 2, x.build());
        due.is("13 crossed when not built", 0, x.crossed(0));
        due.is("14 stopper when not built", 0, x.stopper());
        x.drop();
        due.is("13 built", -1, x.build());
        due.is("13 crossed when built", -1, x.crossed(0));
        due.is("14 stopper when built", -1, x.stopper());
    }

    private static void stopperIsTheFirst(Due due) {
        SectorWalk x = Maps.built(
            new int[][] {{40, -9}, {40, 9}, {10, -9}, {10, 9}, {30, -9}, {30, 9}, {20, -9}, {20, 9}},
            new int[][] {ROOM}, new int[][] {{0, 1, 0, -1}, {2, 3, 0, 0}, {4, 5, 0, -1}, {6, 7, 0, -1}});
        x.start(0, 0, 0, 0);
        x.step(50, 0, 0);
        due.is("14 the first on the way, not by number", 3, x.stopper());
        x.start(50, 0, 32, 0);
        x.step(50, 0, 0);
        due.is("14 the first from the other side", 0, x.stopper());
        x.start(15, 0, 0, 0);
        x.step(5, 0, 0);
        due.is("14 the only one", 3, x.stopper());
    }

    private static void stopperWhenThereIsNone(Due due) {
        SectorWalk x = hall();
        due.is("14 no START", -1, x.stopper());
        x.start(15, 0, 0, 0);
        due.is("14 no step", -1, x.stopper());
        x.step(10, 0, 0);
        due.is("14 one crossed that does not stop", -1, x.stopper());
        x.step(-20, 0, 0);
        due.is("14 one that does", 0, x.stopper());
        x.step(0, 0, 0);
        due.is("14 a step of nothing", -1, x.stopper());
        x.step(-20, 0, 0);
        x.play(0);
        due.is("14 play of nothing", -1, x.stopper());
        x.start(3000, 0, 0, 0);
        due.is("14 over the edge", 2, x.step(1, 0, 0));
        due.is("14 over the edge no wall stops", -1, x.stopper());
    }

    private static void walkerNowhere(Due due) {
        SectorWalk x = new SectorWalk();
        nowhere(due, "15 no map", x);
        x.sector(0, 128);
        x.build();
        nowhere(due, "15 no START", x);
        x.start(0, 0, 0, 1);
        nowhere(due, "15 a refused START", x);
        x.start(0, 0, 0, 0);
        isAt(due, "15 somewhere", x, 0, 0, 0, 0);
        x.build();
        nowhere(due, "15 built", x);
    }

    private static void nowhere(Due due, String when, SectorWalk x) {
        for (int what : new int[] {-1, 0, 1, 2, 3, 4, MIN, MAX}) {
            due.is(when + ": walker " + what, 100000, x.walker(what));
        }
        due.is(when + ": look 7", 0, x.look(7));
    }

    private static void walkerNoSuchWhat(Due due) {
        SectorWalk x = Maps.field(-1, -1, 63);
        for (int what : new int[] {-1, 4, 5, 100000, MIN, MAX}) {
            due.is("15 no such " + what, 100000, x.walker(what));
        }
        isAt(due, "15 such", x, -1, -1, 63, 0);
    }

    private static void lookWithoutAMap(Due due) {
        SectorWalk x = Maps.draft(new int[][] {{0, 0}, {1, 0}}, new int[][] {ROOM}, new int[][] {{0, 1, 0, -1}});
        for (int which = 3; which <= 5; which++) {
            due.is("16 no map: " + which, -1, x.look(which));
        }
        x.wall(0, 1, 0, -1);
        x.build();
        for (int which = 3; which <= 5; which++) {
            due.is("16 no map from a refused draft: " + which, -1, x.look(which));
        }
        x.clear();
        x.build();
        for (int which = 3; which <= 5; which++) {
            due.is("16 an empty map is one: " + which, 0, x.look(which));
        }
    }

    private static void lookAtNothingElse(Due due) {
        SectorWalk x = Maps.field(0, 0, 0);
        x.input(0, 0, 0);
        for (int which : new int[] {-1, 9, 10, MIN, MAX}) {
            due.is("16 nothing else " + which, -1, x.look(which));
            due.is("16 nothing else in a new object " + which, -1, new SectorWalk().look(which));
        }
    }

    /** Every vertex, sector, wall and input that there can be. */
    private static SectorWalk full() {
        SectorWalk x = new SectorWalk();
        for (int i = 0; i < 64; i++) {
            Maps.need(x.vertex(i + 1, i % 2 == 0 ? -10 : 10) == i);
        }
        for (int i = 0; i < 16; i++) {
            Maps.need(x.sector(i, 128) == i);
        }
        for (int i = 0; i < 63; i++) {
            Maps.need(x.wall(i, i + 1, 0, 1) == i);
        }
        Maps.need(x.wall(63, 61, 15, -1) == 63);
        for (int i = 1; i <= 256; i++) {
            Maps.need(x.input(i % 2 == 0 ? -64 : 64, 0, 0) == i);
        }
        return x;
    }

    private static void lookAtTheMostThereCanBe(Due due) {
        SectorWalk x = full();
        Maps.need(x.build() == -1 && x.start(0, 0, 0, 0));
        int[] want = {64, 16, 64, 64, 16, 64, 256, 1, 1};
        for (int which = 0; which < want.length; which++) {
            due.is("16 the most: " + which, want[which], x.look(which));
        }
    }

    private static void lookAtMapsBuilt(Due due) {
        SectorWalk x = new SectorWalk();
        for (int i = 1; i <= 100; i++) {
            x.build();
            due.is("16 maps built " + i, i, x.look(8));
        }
        x.vertex(0, 0);
        x.vertex(1, 0);
        x.sector(0, 1);
        x.wall(0, 1, 0, 0);
        x.wall(0, 1, 0, 0);
        x.build();
        x.clear();
        x.start(0, 0, 0, 0);
        due.is("16 refused, cleared: no more", 100, x.look(8));
    }

    /** 402 calls make the fullest object that can walk; the 110 that are left are promised still. */
    private static void wholeLife(Due due) {
        SectorWalk x = full();
        due.is("512 calls: build", -1, x.build());
        due.is("512 calls: start", true, x.start(0, 0, 0, 0));
        for (int left = 110; left > 0; left -= 5) {
            due.is("512 calls: all inputs", 0, x.play(256));
            due.is("512 calls: back at START", 0, x.walker(0));
            due.is("512 calls: by wall 0 at last", 0, x.crossed(62));
            due.is("512 calls: of 63", -1, x.crossed(63));
            due.is("512 calls: the far side of wall 0", 1, x.walker(3));
        }
    }
}
