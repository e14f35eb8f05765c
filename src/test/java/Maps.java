/** Drafts that several tests begin with. */
final class Maps {
    private Maps() {
    }

    /** The four arguments of each wall are vertices from, to and sectors front, back. */
    static SectorWalk draft(int[][] vertices, int[][] sectors, int[][] walls) {
        SectorWalk x = new SectorWalk();
        for (int[] v : vertices) {
            need(x.vertex(v[0], v[1]) >= 0);
        }
        for (int[] s : sectors) {
            need(x.sector(s[0], s[1]) >= 0);
        }
        for (int[] w : walls) {
            need(x.wall(w[0], w[1], w[2], w[3]) >= 0);
        }
        return x;
    }

    static SectorWalk built(int[][] vertices, int[][] sectors, int[][] walls) {
        SectorWalk x = draft(vertices, sectors, walls);
        need(x.build() == SectorWalk.NONE);
        return x;
    }

    /** A built map of one sector and no walls, with the walker at its start. */
    static SectorWalk field(int x, int y, int angle) {
        SectorWalk walk = built(new int[][] {}, new int[][] {{0, 128}}, new int[][] {});
        need(walk.start(x, y, angle, 0));
        return walk;
    }

    /**
     * One wall across the way at x = 10, from (10, -100) to (10, 100): who comes from the left comes
     * from its back, who comes from the right from its front.
     */
    static SectorWalk gate(int[] frontSector, int[] backSector) {
        return built(new int[][] {{10, -100}, {10, 100}}, new int[][] {frontSector, backSector},
            new int[][] {{0, 1, 0, 1}});
    }

    static void need(boolean holds) {
        if (!holds) {
            throw new IllegalStateException("what the test needs first does not hold");
        }
    }
}
