/** Promise 12: step; the angles, the rounding, what stops, and the edge of the world. */
public final class StepTest {
    private static final int[] QUARTER = {
        256, 255, 251, 245, 237, 226, 213, 198, 181, 162, 142, 121, 98, 74, 50, 25, 0
    };

    public static void main(String[] args) {
        Due due = new Due();
        angles(due);
        turns(due);
        rounding(due);
        wrong(due);
        rises(due);
        openings(due);
        backless(due);
        sides(due);
        reach(due);
        smallest(due);
        edge(due);
        due.end();
    }

    private static int cosine(int a) {
        if (a <= 16) {
            return QUARTER[a];
        }
        if (a <= 32) {
            return -QUARTER[32 - a];
        }
        return a <= 48 ? -QUARTER[a - 32] : QUARTER[64 - a];
    }

    private static void angles(Due due) {
        for (int a = 0; a < 64; a++) {
            int c = cosine(a);
            int s = cosine((a + 48) % 64);
            SectorWalk x = Maps.field(0, 0, a);
            SectorWalk y = Maps.field(0, 0, a);
            SectorWalk z = Maps.field(0, 0, a);
            for (int n = 1; n <= 64; n++) {
                String when = " by " + n + " at " + a;
                goes(due, "ahead" + when, x, n, 0, new int[] {c * n, s * n});
                goes(due, "aside" + when, y, 0, n, new int[] {s * n, -c * n});
                int m = 2 * n - 65;
                goes(due, "both" + when, z, -n, m, new int[] {c * -n + s * m, s * -n - c * m});
            }
            due.is("angle " + a + " stays", a, x.walker(2));
        }
    }

    /** One step from (0, 0), and the 256-fold of its M. */
    private static void goes(Due due, String when, SectorWalk x, int ahead, int aside, int[] m) {
        x.play(0);
        int dx = Math.floorDiv(m[0], 256);
        int dy = Math.floorDiv(m[1], 256);
        due.is(when, dx == 0 && dy == 0 ? 0 : 1, x.step(ahead, aside, 0));
        due.is(when + ": x", dx, x.walker(0));
        due.is(when + ": y", dy, x.walker(1));
    }

    private static void turns(Due due) {
        SectorWalk x = Maps.field(0, 0, 60);
        due.is("turn over the top", 0, x.step(0, 0, 4));
        due.is("turn over the top: angle", 0, x.walker(2));
        due.is("turn below 0", 0, x.step(0, 0, -16));
        due.is("turn below 0: angle", 48, x.walker(2));
        due.is("turn first, then go", 1, x.step(10, 0, 16));
        due.is("turn first, then go: x", 10, x.walker(0));
        due.is("turn first, then go: y", 0, x.walker(1));
    }

    private static void rounding(Due due) {
        SectorWalk x = Maps.field(0, 0, 1);
        due.is("rounded down to nothing", 0, x.step(1, 0, 0));
        due.is("rounded down to nothing: x", 0, x.walker(0));
        due.is("rounded down below nothing", 1, x.step(-1, 0, 0));
        due.is("rounded down below nothing: x", -1, x.walker(0));
        due.is("rounded down below nothing: y", -1, x.walker(1));
    }

    private static void wrong(Due due) {
        SectorWalk bare = Maps.built(new int[][] {}, new int[][] {{0, 9}}, new int[][] {});
        due.is("step without START", -1, bare.step(1, 0, 0));
        SectorWalk x = Maps.gate(new int[] {0, 128}, new int[] {0, 128});
        x.start(0, 0, 0, 1);
        x.step(20, 0, 0);
        int min = Integer.MIN_VALUE;
        int max = Integer.MAX_VALUE;
        int[][] wrong = {
            {65, 0, 1}, {-65, 0, 1}, {0, 65, 1}, {0, -65, 1}, {1, 0, 17}, {1, 0, -17},
            {min, 0, 0}, {max, 0, 0}, {0, min, 0}, {0, max, 0}, {1, 0, min}, {1, 0, max},
        };
        for (int[] w : wrong) {
            due.is("wrong step", -1, x.step(w[0], w[1], w[2]));
            due.is("wrong step: x", 20, x.walker(0));
            due.is("wrong step: angle", 0, x.walker(2));
            due.is("wrong step: crossed", 0, x.crossed(0));
        }
        due.is("step low", 1, x.step(-64, -64, -16));
        due.is("step high", 1, x.step(64, 64, 16));
    }

    /** From the left to the right through the gate, which is from its back to its front. */
    private static int through(int[] near, int[] far) {
        SectorWalk x = Maps.gate(far, near);
        x.start(0, 0, 0, 1);
        int there = x.step(20, 0, 0);
        int sector = x.walker(3);
        SectorWalk y = Maps.gate(near, far);
        y.start(20, 0, 32, 0);
        int mirrored = y.step(20, 0, 0);
        int place = x.walker(0) + (20 - y.walker(0));
        boolean alike = there == mirrored && sector == 1 - y.walker(3);
        boolean placed = there == 1 ? place == 40 && sector == 0 : place == 0 && sector == 1;
        return alike && placed ? there : -99;
    }

    private static void rises(Due due) {
        due.is("level", 1, through(new int[] {0, 128}, new int[] {0, 128}));
        due.is("24 up", 1, through(new int[] {0, 128}, new int[] {24, 128}));
        due.is("25 up", 2, through(new int[] {0, 128}, new int[] {25, 128}));
        due.is("25 down", 1, through(new int[] {25, 128}, new int[] {0, 128}));
        due.is("far down", 1, through(new int[] {128, 256}, new int[] {-256, 256}));
        due.is("24 up from below 0", 1, through(new int[] {-30, 128}, new int[] {-6, 128}));
        due.is("far up", 2, through(new int[] {-256, 256}, new int[] {128, 256}));
    }

    private static void openings(Due due) {
        due.is("56 high", 1, through(new int[] {0, 56}, new int[] {0, 56}));
        due.is("55 high behind", 2, through(new int[] {0, 128}, new int[] {0, 55}));
        due.is("55 high before", 2, through(new int[] {0, 55}, new int[] {0, 128}));
        due.is("56 between", 1, through(new int[] {0, 76}, new int[] {20, 128}));
        due.is("55 between", 2, through(new int[] {0, 75}, new int[] {20, 128}));
        due.is("56 between, downwards", 1, through(new int[] {72, 256}, new int[] {0, 128}));
        due.is("55 between, downwards", 2, through(new int[] {73, 256}, new int[] {0, 128}));
        due.is("no opening", 2, through(new int[] {100, 200}, new int[] {0, 50}));
    }

    private static void backless(Due due) {
        SectorWalk x = Maps.built(new int[][] {{10, -100}, {10, 100}}, new int[][] {{0, 128}},
            new int[][] {{0, 1, 0, -1}});
        x.start(20, 0, 32, 0);
        due.is("from the front", 2, x.step(20, 0, 0));
        due.is("from the front: x", 20, x.walker(0));
        x.start(0, 0, 3, 0);
        due.is("from the back", 2, x.step(20, 0, -3));
        due.is("from the back: x", 0, x.walker(0));
        due.is("from the back: the angle turns", 0, x.walker(2));
        due.is("from the back: the sector stays", 0, x.walker(3));
    }

    /** The sector is that of the wall's far side, whatever the walker's was before. */
    private static void sides(Due due) {
        SectorWalk x = Maps.built(new int[][] {{10, -100}, {10, 100}, {20, 100}, {20, -100}},
            new int[][] {{0, 128}, {0, 128}, {0, 128}, {200, 256}}, new int[][] {{0, 1, 1, 0}, {2, 3, 1, 2}});
        x.start(0, 0, 0, 3);
        due.is("one wall", 1, x.step(15, 0, 0));
        due.is("one wall: sector", 1, x.walker(3));
        due.is("no wall", 1, x.step(2, 0, 0));
        due.is("no wall: sector", 1, x.walker(3));
        x.start(0, 0, 0, 3);
        due.is("no wall from START", 1, x.step(5, 0, 0));
        due.is("no wall from START: sector", 3, x.walker(3));
        due.is("two walls", 1, x.step(20, 0, 0));
        due.is("two walls: sector", 2, x.walker(3));
        due.is("two walls back", 1, x.step(-25, 0, 0));
        due.is("two walls back: sector", 0, x.walker(3));
    }

    private static void reach(Due due) {
        SectorWalk x = Maps.gate(new int[] {0, 128}, new int[] {0, 128});
        x.start(0, 0, 0, 1);
        due.is("short of the wall", 1, x.step(9, 0, 0));
        due.is("short of the wall: sector", 1, x.walker(3));
        due.is("right onto the wall", 1, x.step(1, 0, 0));
        due.is("right onto the wall: sector", 0, x.walker(3));
        due.is("off the wall", 1, x.step(1, 0, 0));
        due.is("off the wall: nothing crossed", -1, x.crossed(0));
        due.is("back onto the wall", 1, x.step(-1, 0, 0));
        due.is("back onto the wall: sector", 1, x.walker(3));
        due.is("away from the wall", 1, x.step(-60, 0, 0));
        due.is("away from the wall: nothing crossed", -1, x.crossed(0));
        x.start(0, 100, 0, 1);
        due.is("through an end, the other one below 0", 1, x.step(20, 0, 0));
        due.is("through that end: crossed", 0, x.crossed(0));
        x.start(0, -100, 0, 1);
        due.is("through an end, none below 0", 1, x.step(20, 0, 0));
        due.is("through that other end: crossed", -1, x.crossed(0));
        x.start(0, -101, 0, 1);
        due.is("past the end", 1, x.step(20, 0, 0));
        due.is("past the end: crossed", -1, x.crossed(0));
        x.start(10, -120, 16, 1);
        due.is("along the wall", 1, x.step(64, 0, 0));
        due.is("along the wall: crossed", -1, x.crossed(0));
    }

    /** The least that P and Q can be, either way round. */
    private static void smallest(Due due) {
        int[][] sectors = {{0, 128}, {0, 128}};
        for (int turned = 0; turned < 2; turned++) {
            int[][] wall = {{turned, 1 - turned, turned, 1 - turned}};
            SectorWalk x = Maps.built(new int[][] {{1, -1}, {1, 0}}, sectors, wall);
            x.start(0, 0, 0, 1);
            due.is("P 1, Q 1", 1, x.step(1, 0, 0));
            due.is("P 1, Q 1: crossed", 0, x.crossed(0));
            due.is("P 1, Q 1: sector", 0, x.walker(3));
            x.start(0, 0, 0, 1);
            due.is("P 1, Q 2", 1, x.step(2, 0, 0));
            due.is("P 1, Q 2: crossed", 0, x.crossed(0));
            x.start(-1, 0, 0, 1);
            due.is("P 2, Q 1", 1, x.step(1, 0, 0));
            due.is("P 2, Q 1: crossed", -1, x.crossed(0));
        }
    }

    private static void edge(Due due) {
        int[][] corners = {{3000, 0, 0, 0}, {0, 3000, 16, 1}, {-3000, 0, 32, 0}, {0, -3000, 48, 1}};
        for (int[] c : corners) {
            SectorWalk x = Maps.field(c[0], c[1], c[2]);
            due.is("over the edge at " + c[2], 2, x.step(1, 0, 0));
            due.is("over the edge at " + c[2] + ": place", c[c[3]], x.walker(c[3]));
            due.is("over the edge at " + c[2] + ": stopper", -1, x.stopper());
            due.is("back from the edge at " + c[2], 1, x.step(-1, 0, 0));
            due.is("to the edge at " + c[2], 1, x.step(1, 0, 0));
            due.is("to the edge at " + c[2] + ": place", c[c[3]], x.walker(c[3]));
        }
    }
}
