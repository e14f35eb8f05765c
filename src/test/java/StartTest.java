/** Promises 8 and 15: start and walker. */
public final class StartTest {
    public static void main(String[] args) {
        Due due = new Due();
        start(due);
        wrong(due);
        again(due);
        walker(due);
        due.end();
    }

    private static void isAt(Due due, String when, SectorWalk x, int... want) {
        for (int what = 0; what < 4; what++) {
            due.is(when + ": walker " + what, want[what], x.walker(what));
        }
    }

    private static void start(Due due) {
        SectorWalk x = Maps.built(new int[][] {}, new int[][] {{0, 9}, {0, 8}, {0, 7}}, new int[][] {});
        due.is("nobody yet", 0, x.look(7));
        due.is("start low", true, x.start(-3000, -3000, 0, 0));
        due.is("somebody", 1, x.look(7));
        isAt(due, "low", x, -3000, -3000, 0, 0);
        due.is("start high", true, x.start(3000, 3000, 63, 2));
        isAt(due, "high", x, 3000, 3000, 63, 2);
    }

    private static void wrong(Due due) {
        SectorWalk bare = Maps.draft(new int[][] {}, new int[][] {{0, 9}}, new int[][] {});
        due.is("start without a map", false, bare.start(0, 0, 0, 0));
        due.is("nobody without a map", 0, bare.look(7));
        SectorWalk x = Maps.built(new int[][] {}, new int[][] {{0, 9}, {0, 8}}, new int[][] {});
        x.sector(0, 7);
        x.start(7, 8, 9, 1);
        int min = Integer.MIN_VALUE;
        int max = Integer.MAX_VALUE;
        int[][] wrong = {
            {3001, 0, 0, 0}, {-3001, 0, 0, 0}, {0, 3001, 0, 0}, {0, -3001, 0, 0}, {0, 0, -1, 0}, {0, 0, 64, 0},
            {0, 0, 0, -1}, {0, 0, 0, 2}, {0, 0, 0, 16}, {min, 0, 0, 0}, {max, 0, 0, 0}, {0, min, 0, 0},
            {0, max, 0, 0}, {0, 0, min, 0}, {0, 0, max, 0}, {0, 0, 0, min}, {0, 0, 0, max},
        };
        for (int i = 0; i < wrong.length; i++) {
            int[] w = wrong[i];
            due.is("wrong start " + i, false, x.start(w[0], w[1], w[2], w[3]));
            isAt(due, "wrong start " + i, x, 7, 8, 9, 1);
        }
        due.is("START is the old one", 0, x.play(0));
        isAt(due, "play", x, 7, 8, 9, 1);
    }

    private static void again(Due due) {
        SectorWalk x = Maps.field(0, 0, 0);
        x.input(10, 0, 0);
        x.step(64, 0, 5);
        x.start(100, 200, 16, 0);
        isAt(due, "second start", x, 100, 200, 16, 0);
        due.is("play from the second START", 0, x.play(1));
        isAt(due, "play", x, 100, 210, 16, 0);
    }

    private static void walker(Due due) {
        SectorWalk x = Maps.field(11, 12, 13);
        for (int what : new int[] {-1, 4, Integer.MIN_VALUE, Integer.MAX_VALUE}) {
            due.is("walker " + what, 100000, x.walker(what));
        }
        x.build();
        for (int what = -1; what < 5; what++) {
            due.is("walker nowhere " + what, 100000, x.walker(what));
        }
    }
}
