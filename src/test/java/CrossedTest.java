/** Promises 13 and 14: crossed and stopper. */
public final class CrossedTest {
    private static final int[] OPEN = {0, 128};
    private static final int[] HIGH = {100, 256};

    public static void main(String[] args) {
        Due due = new Due();
        order(due);
        sameDistance(due);
        nearlySameDistance(due);
        stoppers(due);
        latestStep(due);
        wrong(due);
        fullMap(due);
        due.end();
    }

    private static void isCrossed(Due due, String when, SectorWalk x, int stopper, int... walls) {
        for (int i = 0; i < walls.length; i++) {
            due.is(when + ": crossed " + i, walls[i], x.crossed(i));
        }
        due.is(when + ": no more crossed", -1, x.crossed(walls.length));
        due.is(when + ": stopper", stopper, x.stopper());
    }

    /** Upright walls at these places, in this order, front and back as told. */
    private static SectorWalk fences(int[][] sectors, int[][] fences) {
        int[][] vertices = new int[fences.length * 2][];
        int[][] walls = new int[fences.length][];
        for (int i = 0; i < fences.length; i++) {
            vertices[2 * i] = new int[] {fences[i][0], -50};
            vertices[2 * i + 1] = new int[] {fences[i][0], 50};
            walls[i] = new int[] {2 * i, 2 * i + 1, fences[i][1], fences[i][2]};
        }
        return Maps.built(vertices, sectors, walls);
    }

    private static void order(Due due) {
        SectorWalk x = fences(new int[][] {OPEN}, new int[][] {{30, 0, 0}, {10, 0, 0}, {40, 0, 0}, {20, 0, 0}});
        x.start(0, 0, 0, 0);
        due.is("to the right", 1, x.step(40, 0, 0));
        isCrossed(due, "to the right", x, -1, 1, 3, 0, 2);
        due.is("on", 1, x.step(5, 0, 0));
        isCrossed(due, "on", x, -1);
        due.is("to the left", 1, x.step(-30, 0, 0));
        isCrossed(due, "to the left", x, -1, 2, 0, 3);
    }

    /** Both walls of a V are met at its point if their other ends are below 0, by their numbers. */
    private static void sameDistance(Due due) {
        int[][] vertices = {{10, 0}, {15, -20}, {5, -20}, {5, 20}, {15, 20}};
        int[][] sectors = {OPEN, OPEN, OPEN};
        int[][][] orders = {{{0, 1, 0, 1}, {0, 2, 0, 2}}, {{2, 0, 0, 1}, {1, 0, 2, 0}}};
        for (int[][] walls : orders) {
            SectorWalk x = Maps.built(vertices, sectors, walls);
            x.start(0, 0, 0, 0);
            due.is("a V from the left", 1, x.step(20, 0, 0));
            isCrossed(due, "a V from the left", x, -1, 0, 1);
            due.is("a V from the left: sector", 2, x.walker(3));
            x.start(20, 0, 32, 0);
            due.is("a V from the right", 1, x.step(20, 0, 0));
            isCrossed(due, "a V from the right", x, -1);
        }
        SectorWalk y = Maps.built(vertices, sectors, new int[][] {{0, 3, 0, 1}, {0, 4, 0, 2}, {0, 1, 0, 1}});
        y.start(0, 0, 0, 0);
        due.is("a Y", 1, y.step(20, 0, 0));
        isCrossed(due, "a Y", y, -1, 2);
    }

    /** Walls so close and so long that rounded quotients, or products in ints, would not part them. */
    private static void nearlySameDistance(Due due) {
        int[][] vertices = {{50, 0}, {51, -2000}, {51, 2000}, {52, -2000}, {52, 2000}, {50, -2000}};
        SectorWalk y = Maps.built(vertices, new int[][] {OPEN},
            new int[][] {{4, 3, 0, 0}, {0, 5, 0, 0}, {2, 1, 0, 0}});
        y.start(0, -1, 0, 0);
        due.is("one apart", 1, y.step(64, 0, 0));
        isCrossed(due, "one apart", y, -1, 1, 2, 0);
        SectorWalk z = Maps.built(
            new int[][] {{30, -1999}, {32, 2000}, {30, -2000}, {32, 1998}, {31, -2000}, {32, 1997}},
            new int[][] {OPEN}, new int[][] {{4, 5, 0, 0}, {2, 3, 0, 0}, {0, 1, 0, 0}});
        z.start(0, 0, 0, 0);
        due.is("nearly on a slant", 1, z.step(64, 0, 0));
        isCrossed(due, "nearly on a slant", z, -1, 2, 1, 0);
    }

    private static void stoppers(Due due) {
        int[][] sectors = {OPEN, HIGH};
        SectorWalk x = fences(sectors, new int[][] {{30, 0, -1}, {10, 0, 0}, {20, 1, 0}, {40, 0, 0}});
        x.start(0, 0, 0, 0);
        due.is("the first that stops", 2, x.step(64, 0, 0));
        isCrossed(due, "the first that stops", x, 2, 1, 2, 0, 3);
        due.is("none that stops", 1, x.step(15, 0, 0));
        isCrossed(due, "none that stops", x, -1, 1);
        x.start(64, 0, 32, 0);
        due.is("the first from the right", 2, x.step(64, 0, 0));
        isCrossed(due, "the first from the right", x, 0, 3, 0, 2, 1);
        x.start(64, 0, 32, 0);
        x.step(30, 0, 0);
        isCrossed(due, "only one of those in reach", x, -1, 3);
        SectorWalk y = fences(new int[][] {OPEN}, new int[][] {{2000, 0, 0}});
        y.start(3000, 0, 0, 0);
        due.is("stopped by no wall", 2, y.step(1, 0, 0));
        isCrossed(due, "stopped by no wall", y, -1);
    }

    private static void latestStep(Due due) {
        SectorWalk x = fences(new int[][] {OPEN}, new int[][] {{10, 0, 0}, {20, 0, -1}});
        x.start(0, 0, 0, 0);
        isCrossed(due, "start", x, -1);
        x.step(25, 0, 0);
        isCrossed(due, "step", x, 1, 0, 1);
        x.step(0, 0, 0);
        isCrossed(due, "step of nothing", x, -1);
        x.step(25, 0, 0);
        x.input(15, 0, 0);
        x.input(15, 0, 0);
        x.input(0, 0, 1);
        x.undo(0);
        due.is("wrong step", -1, x.step(65, 0, 0));
        due.is("wrong play", -1, x.play(4));
        due.is("wrong start", false, x.start(0, 0, 0, 1));
        isCrossed(due, "what answers NONE", x, 1, 0, 1);
        x.play(1);
        isCrossed(due, "play 1", x, -1, 0);
        x.play(2);
        isCrossed(due, "play 2", x, 1, 1);
        x.undo(2);
        isCrossed(due, "undo", x, 1, 1);
        x.play(0);
        isCrossed(due, "play 0", x, -1);
        x.step(25, 0, 0);
        x.input(15, 0, 0);
        x.input(0, 0, 1);
        x.play(3);
        isCrossed(due, "play 3, the last of nothing", x, -1);
        x.start(0, 0, 0, 0);
        x.step(25, 0, 0);
        x.start(0, 0, 0, 0);
        isCrossed(due, "start again", x, -1);
        x.step(25, 0, 0);
        x.clear();
        isCrossed(due, "clear", x, 1, 0, 1);
        x.build();
        isCrossed(due, "build", x, -1);
    }

    private static void wrong(Due due) {
        SectorWalk x = fences(new int[][] {OPEN}, new int[][] {{10, 0, 0}});
        x.start(0, 0, 0, 0);
        x.step(25, 0, 0);
        for (int i : new int[] {-1, 1, 63, 64, Integer.MIN_VALUE, Integer.MAX_VALUE}) {
            due.is("crossed " + i, -1, x.crossed(i));
        }
    }

    /** A zigzag of 63 walls, all crossed by one step, and one more to fill the map. */
    private static void fullMap(Due due) {
        SectorWalk x = new SectorWalk();
        x.sector(0, 128);
        for (int i = 0; i < 64; i++) {
            x.vertex(32 - i / 2, i % 2 == 0 ? -10 : 10);
        }
        int[] want = new int[63];
        for (int i = 0; i < 63; i++) {
            x.wall(i, i + 1, 0, 0);
            want[62 - i] = i;
        }
        x.wall(63, 0, 0, 0);
        due.is("full: the last wall clashes", 63, x.build());
        x.drop();
        x.wall(63, 61, 0, -1);
        due.is("full", -1, x.build());
        due.is("full: walls", 64, x.look(5));
        due.is("full: start", true, x.start(-1, 0, 0, 0));
        due.is("full: step", 1, x.step(64, 0, 0));
        isCrossed(due, "full", x, -1, want);
        due.is("full: crossed 64", -1, x.crossed(64));
    }
}
