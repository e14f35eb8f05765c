/** Promises 1 to 6: a new object, vertex, sector, wall, drop, clear. */
public final class DraftTest {
    private static final int[] BEYOND = {Integer.MIN_VALUE, Integer.MAX_VALUE};

    public static void main(String[] args) {
        Due due = new Due();
        newObject(due);
        vertex(due);
        vertexLimit(due);
        sector(due);
        sectorLimit(due);
        wall(due);
        wallLimit(due);
        drop(due);
        clear(due);
        due.end();
    }

    private static void newObject(Due due) {
        SectorWalk x = new SectorWalk();
        int[] looks = {0, 0, 0, -1, -1, -1, 0, 0, 0};
        for (int which = 0; which < looks.length; which++) {
            due.is("new: look " + which, looks[which], x.look(which));
        }
        due.is("new: walker", 100000, x.walker(0));
        due.is("new: stopper", -1, x.stopper());
        due.is("new: crossed", -1, x.crossed(0));
        due.is("new: drop", false, x.drop());
        due.is("new: start", false, x.start(0, 0, 0, 0));
        due.is("new: play", -1, x.play(0));
        due.is("new: step", -1, x.step(1, 1, 1));
        due.is("new: undo 0", true, x.undo(0));
        due.is("new: undo 1", false, x.undo(1));
        SectorWalk other = new SectorWalk();
        x.vertex(1, 1);
        due.is("new: objects share nothing", 0, other.look(0));
    }

    private static void vertex(Due due) {
        SectorWalk x = new SectorWalk();
        due.is("vertex low edge", 0, x.vertex(-2000, -2000));
        due.is("vertex high edge", 1, x.vertex(2000, 2000));
        due.is("vertex mixed edge", 2, x.vertex(-2000, 2000));
        due.is("vertex x low", -1, x.vertex(-2001, 0));
        due.is("vertex x high", -1, x.vertex(2001, 0));
        due.is("vertex y low", -1, x.vertex(0, -2001));
        due.is("vertex y high", -1, x.vertex(0, 2001));
        for (int far : BEYOND) {
            due.is("vertex x far", -1, x.vertex(far, 0));
            due.is("vertex y far", -1, x.vertex(0, far));
        }
        due.is("vertex alike", -1, x.vertex(2000, 2000));
        due.is("vertex same x", 3, x.vertex(2000, 0));
        due.is("vertex same y", 4, x.vertex(0, 2000));
        due.is("vertex swapped", 5, x.vertex(2000, -2000));
        due.is("vertex count", 6, x.look(0));
    }

    private static void vertexLimit(Due due) {
        SectorWalk x = new SectorWalk();
        for (int i = 0; i < 64; i++) {
            due.is("vertex " + i, i, x.vertex(i, 2 * i));
        }
        due.is("vertex 64", -1, x.vertex(500, 500));
        due.is("vertex 64 count", 64, x.look(0));
    }

    private static void sector(Due due) {
        SectorWalk x = new SectorWalk();
        due.is("sector whole height", 0, x.sector(-256, 256));
        due.is("sector lowest", 1, x.sector(-256, -255));
        due.is("sector highest", 2, x.sector(255, 256));
        due.is("sector alike", 3, x.sector(255, 256));
        due.is("sector flat", -1, x.sector(5, 5));
        due.is("sector upside down", -1, x.sector(6, 5));
        due.is("sector floor low", -1, x.sector(-257, 0));
        due.is("sector ceiling high", -1, x.sector(0, 257));
        due.is("sector both high", -1, x.sector(257, 258));
        due.is("sector both low", -1, x.sector(-258, -257));
        for (int far : BEYOND) {
            due.is("sector floor far", -1, x.sector(far, 0));
            due.is("sector ceiling far", -1, x.sector(0, far));
        }
        due.is("sector count", 4, x.look(1));
    }

    private static void sectorLimit(Due due) {
        SectorWalk x = new SectorWalk();
        for (int i = 0; i < 16; i++) {
            due.is("sector " + i, i, x.sector(0, i + 1));
        }
        due.is("sector 16", -1, x.sector(0, 128));
        due.is("sector 16 count", 16, x.look(1));
    }

    private static void wall(Due due) {
        SectorWalk x = Maps.draft(new int[][] {{0, 0}, {10, 0}, {0, 10}}, new int[][] {{0, 128}, {8, 128}},
            new int[][] {});
        due.is("wall", 0, x.wall(0, 1, 0, 1));
        due.is("wall without back", 1, x.wall(2, 0, 1, -1));
        due.is("wall one sector", 2, x.wall(1, 2, 1, 1));
        due.is("wall alike", 3, x.wall(1, 2, 1, 1));
        due.is("wall from is to", -1, x.wall(1, 1, 0, 1));
        due.is("wall from -1", -1, x.wall(-1, 1, 0, 1));
        due.is("wall from 3", -1, x.wall(3, 1, 0, 1));
        due.is("wall to -1", -1, x.wall(1, -1, 0, 1));
        due.is("wall to 3", -1, x.wall(1, 3, 0, 1));
        due.is("wall front -1", -1, x.wall(0, 1, -1, 1));
        due.is("wall front 2", -1, x.wall(0, 1, 2, 1));
        due.is("wall back -2", -1, x.wall(0, 1, 0, -2));
        due.is("wall back 2", -1, x.wall(0, 1, 0, 2));
        for (int far : BEYOND) {
            due.is("wall from far", -1, x.wall(far, 1, 0, 1));
            due.is("wall to far", -1, x.wall(0, far, 0, 1));
            due.is("wall front far", -1, x.wall(0, 1, far, 1));
            due.is("wall back far", -1, x.wall(0, 1, 0, far));
        }
        due.is("wall count", 4, x.look(2));
        due.is("wall in a new object", -1, new SectorWalk().wall(0, 1, 0, -1));
    }

    private static void wallLimit(Due due) {
        SectorWalk x = Maps.draft(new int[][] {{0, 0}, {10, 0}}, new int[][] {{0, 128}}, new int[][] {});
        for (int i = 0; i < 64; i++) {
            due.is("wall " + i, i, x.wall(0, 1, 0, 0));
        }
        due.is("wall 64", -1, x.wall(0, 1, 0, 0));
        due.is("wall 64 count", 64, x.look(2));
        due.is("drop of 64", true, x.drop());
        due.is("wall 63 again", 63, x.wall(1, 0, 0, 0));
    }

    private static void drop(Due due) {
        SectorWalk x = Maps.draft(new int[][] {{0, 0}, {10, 0}, {0, 10}}, new int[][] {{0, 128}},
            new int[][] {{0, 1, 0, 0}, {1, 2, 0, 0}});
        due.is("drop 1", true, x.drop());
        due.is("drop count", 1, x.look(2));
        due.is("drop leaves vertices", 3, x.look(0));
        due.is("drop leaves sectors", 1, x.look(1));
        due.is("wall behind drop", 1, x.wall(2, 0, 0, 0));
        due.is("drop 2", true, x.drop());
        due.is("drop 3", true, x.drop());
        due.is("drop none", false, x.drop());
        due.is("drop none count", 0, x.look(2));
    }

    private static void clear(Due due) {
        SectorWalk x = Maps.built(new int[][] {{0, 0}, {10, 0}, {0, 10}}, new int[][] {{0, 128}, {0, 99}},
            new int[][] {{0, 1, 0, -1}});
        x.start(5, -5, 16, 1);
        x.input(3, 0, 0);
        x.step(20, 0, 0);
        x.clear();
        int[] looks = {0, 0, 0, 3, 2, 1, 1, 1, 1};
        for (int which = 0; which < looks.length; which++) {
            due.is("clear: look " + which, looks[which], x.look(which));
        }
        due.is("clear: walker stays", -5, x.walker(1));
        due.is("clear: crossed stays", 0, x.crossed(0));
        due.is("clear: stopper stays", 0, x.stopper());
        due.is("clear: map still stops", 2, x.step(20, 0, 0));
        due.is("clear: no vertex", -1, x.wall(0, 1, 0, -1));
        due.is("clear: drop", false, x.drop());
        due.is("clear: the place is free", 0, x.vertex(10, 0));
        due.is("clear: the next one too", 1, x.vertex(0, 0));
        due.is("clear: no sector", -1, x.wall(0, 1, 0, -1));
        due.is("clear: first sector", 0, x.sector(1, 2));
        due.is("clear: first wall", 0, x.wall(0, 1, 0, -1));
    }
}
