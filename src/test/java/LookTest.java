/** Promise 16: look. */
public final class LookTest {
    public static void main(String[] args) {
        Due due = new Due();
        SectorWalk x = Maps.draft(new int[][] {{0, 0}, {9, 0}, {0, 9}, {9, 9}}, new int[][] {{0, 9}, {0, 8}},
            new int[][] {{0, 1, 0, -1}, {1, 2, 0, -1}, {2, 0, 0, -1}});
        isLike(due, "draft", x, 4, 2, 3, -1, -1, -1, 0, 0, 0);
        x.build();
        isLike(due, "built", x, 4, 2, 3, 4, 2, 3, 0, 0, 1);
        x.vertex(1, 50);
        x.sector(0, 7);
        x.sector(0, 6);
        x.drop();
        isLike(due, "draft changed", x, 5, 4, 2, 4, 2, 3, 0, 0, 1);
        x.wall(0, 1, 0, 0);
        x.build();
        isLike(due, "not built", x, 5, 4, 3, 4, 2, 3, 0, 0, 1);
        x.start(3, 3, 0, 0);
        x.input(0, 0, 0);
        x.input(0, 0, 0);
        isLike(due, "started", x, 5, 4, 3, 4, 2, 3, 2, 1, 1);
        x.drop();
        x.build();
        isLike(due, "built again", x, 5, 4, 2, 5, 4, 2, 2, 0, 2);
        x.clear();
        x.build();
        isLike(due, "built empty", x, 0, 0, 0, 0, 0, 0, 2, 0, 3);
        due.end();
    }

    private static void isLike(Due due, String when, SectorWalk x, int... want) {
        for (int which = 0; which < want.length; which++) {
            due.is(when + ": look " + which, want[which], x.look(which));
        }
        for (int which : new int[] {-1, 9, Integer.MIN_VALUE, Integer.MAX_VALUE}) {
            due.is(when + ": look " + which, -1, x.look(which));
        }
    }
}
