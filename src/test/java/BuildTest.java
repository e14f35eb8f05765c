/** Promise 7: build, and when a DRAFT is RIGHT. */
public final class BuildTest {
    public static void main(String[] args) {
        Due due = new Due();
        pairs(due);
        leastNumber(due);
        refused(due);
        copied(due);
        nowhere(due);
        due.end();
    }

    /** Builds two walls without a vertex of both, told by their ends, each either way round. */
    private static int apart(int... ends) {
        int[][] vertices = {{ends[0], ends[1]}, {ends[2], ends[3]}, {ends[4], ends[5]}, {ends[6], ends[7]}};
        int answer = two(vertices, new int[][] {{0, 1, 0, -1}, {2, 3, 0, -1}});
        int[][][] others = {
            {{0, 1, 0, -1}, {3, 2, 0, -1}}, {{1, 0, 0, -1}, {2, 3, 0, -1}}, {{1, 0, 0, -1}, {3, 2, 0, -1}},
            {{2, 3, 0, -1}, {0, 1, 0, 0}}, {{3, 2, 0, -1}, {1, 0, 0, 0}},
        };
        return agree(vertices, others, answer);
    }

    /** Builds two walls from a vertex of both to two others, with each wall either way round. */
    private static int joined(int... ends) {
        int[][] vertices = {{ends[0], ends[1]}, {ends[2], ends[3]}, {ends[4], ends[5]}};
        int first = two(vertices, new int[][] {{0, 1, 0, -1}, {0, 2, 0, -1}});
        int[][][] others = {
            {{0, 1, 0, -1}, {2, 0, 0, -1}}, {{1, 0, 0, -1}, {0, 2, 0, -1}}, {{1, 0, 0, -1}, {2, 0, 0, -1}},
        };
        return agree(vertices, others, first);
    }

    private static int agree(int[][] vertices, int[][][] others, int answer) {
        for (int[][] walls : others) {
            if (two(vertices, walls) != answer) {
                return -99;
            }
        }
        return answer;
    }

    private static int two(int[][] vertices, int[][] walls) {
        return Maps.draft(vertices, new int[][] {{0, 128}}, walls).build();
    }

    private static void pairs(Due due) {
        due.is("a cross", 1, apart(-10, -10, 10, 10, -10, 10, 10, -10));
        due.is("a cross at no whole place", 1, apart(0, 0, 1, 1, 0, 1, 1, 0));
        due.is("a flat cross of the longest", 1, apart(-2000, -2000, 2000, 2000, -2000, -1999, 2000, 1999));
        due.is("nearly alike, apart", -1, apart(-2000, -2000, 2000, 1999, -2000, -1999, 2000, 2000));
        due.is("an end inside the other", 1, apart(0, 0, 10, 0, 5, 0, 5, 9));
        due.is("an end inside the other, from below", 1, apart(0, 0, 10, 0, 5, 0, 5, -9));
        due.is("an end inside the other, from far", 1, apart(0, 0, 10, 0, 5, -9, 5, 0));
        due.is("an end inside the shortest", 1, apart(0, 0, 2, 0, 1, 0, 1, 1));
        due.is("an end inside a slant", 1, apart(0, 0, 4, 6, 2, 3, 0, 6));
        due.is("an end the least bit off a slant", -1, apart(0, 0, 5, 8, 3, 5, 0, 8));
        due.is("an end the least bit off, below", -1, apart(0, 0, 5, 8, 2, 3, 8, 0));
        due.is("an end just short of the other", -1, apart(0, 0, 10, 0, 5, 1, 5, 9));
        due.is("the line goes through, the wall does not", -1, apart(0, 0, 10, 0, 11, -5, 11, 5));
        due.is("boxes meet, walls do not", -1, apart(0, 0, 10, 10, 6, 5, 9, 0));
        due.is("side by side", -1, apart(0, 0, 10, 0, 0, 1, 10, 1));
        due.is("on one line, apart", -1, apart(0, 0, 10, 0, 11, 0, 20, 0));
        due.is("on one line, overlapping", 1, apart(0, 0, 10, 0, 9, 0, 20, 0));
        due.is("on one line, one inside", 1, apart(0, 0, 10, 0, 3, 0, 4, 0));
        due.is("on one steep line, apart", -1, apart(3, 0, 3, 10, 3, 11, 3, 20));
        due.is("on one steep line, overlapping", 1, apart(3, 0, 3, 10, 3, 9, 3, 20));
        due.is("on one slant, apart", -1, apart(0, 0, 4, 8, 5, 10, 7, 14));
        due.is("on one slant, overlapping", 1, apart(0, 0, 5, 10, 4, 8, 7, 14));
        due.is("the least back along itself", 1, joined(0, 0, 1, 0, 2, 0));
        due.is("the least straight on", -1, joined(0, 0, 1, 0, -1, 0));
        due.is("a corner", -1, joined(0, 0, 10, 0, 0, 10));
        due.is("a sharp corner", -1, joined(-2000, -2000, 2000, 2000, 2000, 1999));
        due.is("straight on", -1, joined(0, 0, 10, 0, -10, 0));
        due.is("straight on by a slant", -1, joined(0, 0, 3, 6, -1, -2));
        due.is("back along itself", 1, joined(0, 0, 10, 0, 20, 0));
        due.is("back along a shorter one", 1, joined(0, 0, 6, 9, 2, 3));
        int[][] least = {{0, 0}, {0, 1}};
        due.is("alike, the least", 1, two(least, new int[][] {{0, 1, 0, -1}, {0, 1, 0, -1}}));
        int[][] ends = {{0, 0}, {10, 3}};
        due.is("alike", 1, two(ends, new int[][] {{0, 1, 0, -1}, {0, 1, 0, -1}}));
        due.is("there and back", 1, two(ends, new int[][] {{0, 1, 0, -1}, {1, 0, 0, -1}}));
    }

    private static void leastNumber(Due due) {
        int[][] vertices = {{0, 0}, {100, 0}, {10, -5}, {10, 5}, {20, -5}, {20, 5}, {0, 50}, {100, 50}};
        int[][] sectors = {{0, 128}};
        SectorWalk x = Maps.draft(vertices, sectors,
            new int[][] {{2, 3, 0, -1}, {6, 7, 0, -1}, {4, 5, 0, -1}, {0, 1, 0, -1}, {1, 0, 0, -1}});
        due.is("the least wall with a lower one", 3, x.build());
        x.drop();
        due.is("without the last", 3, x.build());
        x.drop();
        due.is("without both", -1, x.build());
    }

    private static void refused(Due due) {
        SectorWalk x = Maps.gate(new int[] {0, 128}, new int[] {0, 128});
        x.start(0, 0, 0, 1);
        x.step(20, 0, 0);
        x.input(1, 0, 0);
        x.wall(1, 0, 0, 0);
        due.is("wrong draft", 1, x.build());
        due.is("wrong draft: the map stays", 1, x.look(5));
        due.is("wrong draft: maps built", 1, x.look(8));
        due.is("wrong draft: the draft stays", 2, x.look(2));
        due.is("wrong draft: the walker stays", 20, x.walker(0));
        due.is("wrong draft: crossed stays", 0, x.crossed(0));
        due.is("wrong draft: START stays", 0, x.play(1));
    }

    private static void copied(Due due) {
        SectorWalk x = Maps.gate(new int[] {0, 128}, new int[] {0, 128});
        due.is("the draft stays", 1, x.look(2));
        x.clear();
        x.vertex(500, 500);
        x.vertex(501, 500);
        x.sector(50, 60);
        x.wall(0, 1, 0, -1);
        x.start(0, 0, 0, 1);
        due.is("the map is a copy", 1, x.step(20, 0, 0));
        due.is("the map's wall is at its old place", 0, x.crossed(0));
        due.is("the map's wall has its old sector", 0, x.walker(3));
        due.is("build again", -1, x.build());
        due.is("the new map's vertices", 2, x.look(3));
        due.is("the new map's sectors", 1, x.look(4));
        due.is("no sector 1 any more", false, x.start(0, 0, 0, 1));
        due.is("maps built", 2, x.look(8));
    }

    private static void nowhere(Due due) {
        SectorWalk x = Maps.gate(new int[] {0, 128}, new int[] {0, 128});
        x.input(64, 0, 0);
        x.start(0, 0, 0, 1);
        x.step(20, 0, 0);
        due.is("crossed", 0, x.crossed(0));
        due.is("build the same", -1, x.build());
        due.is("no walker", 100000, x.walker(0));
        due.is("nobody somewhere", 0, x.look(7));
        due.is("no START to play from", -1, x.play(0));
        due.is("no START to step from", -1, x.step(1, 0, 0));
        due.is("nothing crossed", -1, x.crossed(0));
        due.is("the inputs stay", 1, x.look(6));
        SectorWalk y = Maps.built(new int[][] {{10, -9}, {10, 9}}, new int[][] {{0, 128}},
            new int[][] {{0, 1, 0, -1}});
        y.start(0, 0, 0, 0);
        y.step(20, 0, 0);
        due.is("stopped", 0, y.stopper());
        y.build();
        due.is("nothing stops", -1, y.stopper());
    }
}
