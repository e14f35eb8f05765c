/** Promises 9 to 11: input, undo, play. */
public final class InputsTest {
    public static void main(String[] args) {
        Due due = new Due();
        input(due);
        inputLimit(due);
        undo(due);
        play(due);
        playStops(due);
        playWrong(due);
        playLong(due);
        due.end();
    }

    private static void input(Due due) {
        SectorWalk x = new SectorWalk();
        due.is("input low", 1, x.input(-64, -64, -16));
        due.is("input high", 2, x.input(64, 64, 16));
        due.is("input nothing", 3, x.input(0, 0, 0));
        int min = Integer.MIN_VALUE;
        int max = Integer.MAX_VALUE;
        int[][] wrong = {
            {65, 0, 0}, {-65, 0, 0}, {0, 65, 0}, {0, -65, 0}, {0, 0, 17}, {0, 0, -17},
            {min, 0, 0}, {max, 0, 0}, {0, min, 0}, {0, max, 0}, {0, 0, min}, {0, 0, max},
        };
        for (int[] w : wrong) {
            due.is("input wrong", -1, x.input(w[0], w[1], w[2]));
        }
        due.is("inputs", 3, x.look(6));
    }

    private static void inputLimit(Due due) {
        SectorWalk x = new SectorWalk();
        for (int i = 1; i <= 256; i++) {
            due.is("input " + i, i, x.input(1, 0, 0));
        }
        due.is("input 257", -1, x.input(1, 0, 0));
        due.is("inputs at most", 256, x.look(6));
        due.is("undo 257", false, x.undo(257));
        due.is("undo 256", true, x.undo(256));
        due.is("no inputs", 0, x.look(6));
    }

    private static void undo(Due due) {
        SectorWalk x = Maps.field(0, 0, 0);
        x.input(1, 0, 0);
        x.input(2, 0, 0);
        x.input(4, 0, 0);
        due.is("play 3", 0, x.play(3));
        due.is("undo below 0", false, x.undo(-1));
        due.is("undo far below 0", false, x.undo(Integer.MIN_VALUE));
        due.is("undo too many", false, x.undo(4));
        due.is("undo far too many", false, x.undo(Integer.MAX_VALUE));
        due.is("undone none", 3, x.look(6));
        due.is("undo 0", true, x.undo(0));
        due.is("undone 0", 3, x.look(6));
        due.is("undo 2", true, x.undo(2));
        due.is("undone 2", 1, x.look(6));
        due.is("the walker stays", 7, x.walker(0));
        due.is("input behind undo", 2, x.input(32, 0, 0));
        due.is("play the new one", 0, x.play(2));
        due.is("the first and the new one", 33, x.walker(0));
        due.is("undo all", true, x.undo(2));
        due.is("undo of none", false, x.undo(1));
    }

    private static void play(Due due) {
        SectorWalk x = Maps.field(100, 100, 60);
        x.input(10, 0, 4);
        x.input(10, 0, 16);
        x.input(0, 10, 0);
        int[][] want = {{100, 100, 60}, {110, 100, 0}, {110, 110, 16}, {120, 110, 16}};
        for (int k : new int[] {3, 0, 2, 1, 3, 3}) {
            due.is("play " + k, 0, x.play(k));
            for (int what = 0; what < 3; what++) {
                due.is("play " + k + " walker " + what, want[k][what], x.walker(what));
            }
        }
        x.step(64, 0, 1);
        due.is("play begins at START again", 0, x.play(1));
        due.is("play begins at START again: x", 110, x.walker(0));
        due.is("a step is no input", 3, x.look(6));
    }

    private static void playStops(Due due) {
        SectorWalk x = Maps.built(new int[][] {{10, -100}, {10, 100}}, new int[][] {{0, 128}},
            new int[][] {{0, 1, 0, -1}});
        x.start(0, 0, 0, 0);
        x.input(5, 0, 0);
        x.input(6, 0, 0);
        x.input(0, 0, 1);
        x.input(64, 0, -1);
        x.input(4, 0, 0);
        x.input(1, 0, 0);
        int[] stops = {0, 0, 1, 1, 2, 2, 3};
        int[] places = {0, 5, 5, 5, 5, 9, 9};
        for (int k = 0; k < stops.length; k++) {
            due.is("play to a wall " + k, stops[k], x.play(k));
            due.is("play to a wall " + k + ": x", places[k], x.walker(0));
        }
        x.start(2995, 0, 0, 0);
        due.is("play to the edge", 4, x.play(6));
        due.is("play to the edge: x", 3000, x.walker(0));
        due.is("play to the edge: stopper", -1, x.stopper());
    }

    private static void playWrong(Due due) {
        SectorWalk x = Maps.built(new int[][] {}, new int[][] {{0, 9}}, new int[][] {});
        x.input(10, 0, 0);
        due.is("play without START", -1, x.play(1));
        x.start(0, 0, 0, 0);
        x.step(30, 0, 0);
        for (int k : new int[] {-1, 2, Integer.MIN_VALUE, Integer.MAX_VALUE}) {
            due.is("play " + k, -1, x.play(k));
            due.is("play " + k + ": the walker stays", 30, x.walker(0));
        }
    }

    private static void playLong(Due due) {
        SectorWalk x = Maps.field(-3000, 3000, 0);
        for (int i = 0; i < 256; i++) {
            x.input(23, 1, 0);
        }
        due.is("play 256", 0, x.play(256));
        due.is("play 256: x", -3000 + 256 * 23, x.walker(0));
        due.is("play 256: y", 3000 - 256, x.walker(1));
    }
}
