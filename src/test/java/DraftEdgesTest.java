/**
 * A test for each sentence of the document that names a boundary case of the DRAFT and of build(), in the
 * order of the document: promises 1 to 7. The label of each answer begins with the number of its promise.
 */
public final class DraftEdgesTest {
    private static final int MIN = Integer.MIN_VALUE;
    private static final int MAX = Integer.MAX_VALUE;
    private static final int[] ROOM = {0, 128};

    public static void main(String[] args) {
        Due due = new Due();
        newObjectHasAnEmptyDraft(due);
        newObjectHasNoMap(due);
        newObjectHasNoInputs(due);
        vertexWhoseXOrYIsNone(due);
        vertexAtTheOutermostPlaces(due);
        vertexWhereThereIsOne(due);
        vertexWhenThereAre64(due);
        sectorWhoseFloorOrCeilingIsNone(due);
        sectorWhoseCeilingIsNotAboveItsFloor(due);
        sectorWhenThereAre16(due);
        wallWithoutBack(due);
        wallOfNoSuchVertices(due);
        wallOfNoSuchSectors(due);
        wallFromAVertexToItself(due);
        wallWhenThereAre64(due);
        dropTheLastWall(due);
        dropWhenThereIsNone(due);
        clearAnEmptyDraft(due);
        clearAFullDraft(due);
        clearLeavesAllButTheDraft(due);
        buildWithoutTwoWalls(due);
        buildWithAVertexOnAWall(due);
        buildWithWallsThatMeetAtAVertexOfBoth(due);
        buildWithArmsOnOneLine(due);
        buildWithWallsThatMeetElsewhere(due);
        buildAnswersTheLeastWall(due);
        buildAnswersTheHighestWall(due);
        buildRefusedAtFirst(due);
        buildRefusedLater(due);
        buildTakesTheStartAway(due);
        buildCopies(due);
        due.end();
    }

    private static void looks(Due due, String when, SectorWalk x, int first, int... want) {
        for (int i = 0; i < want.length; i++) {
            due.is(when + ": look " + (first + i), want[i], x.look(first + i));
        }
    }

    /** All 64 vertices, all 16 sectors and a zigzag of 63 walls, which is RIGHT. */
    private static SectorWalk nearlyFull() {
        SectorWalk x = new SectorWalk();
        for (int i = 0; i < 64; i++) {
            Maps.need(x.vertex(i, i % 2 == 0 ? -10 : 10) == i);
        }
        for (int i = 0; i < 16; i++) {
            Maps.need(x.sector(0, 128 + i) == i);
        }
        for (int i = 0; i < 63; i++) {
            Maps.need(x.wall(i, i + 1, i % 16, 15 - i % 16) == i);
        }
        return x;
    }

    private static void newObjectHasAnEmptyDraft(Due due) {
        SectorWalk x = new SectorWalk();
        looks(due, "1 empty draft", x, 0, 0, 0, 0);
        due.is("1 empty draft: no vertices", -1, x.wall(0, 1, 0, -1));
        due.is("1 empty draft: no wall", false, x.drop());
        due.is("1 empty draft: the first vertex", 0, x.vertex(0, 0));
        due.is("1 empty draft: the first sector", 0, x.sector(0, 1));
    }

    private static void newObjectHasNoMap(Due due) {
        SectorWalk x = new SectorWalk();
        looks(due, "1 no map", x, 3, -1, -1, -1);
        looks(due, "1 no map", x, 7, 0, 0);
        due.is("1 no map: nobody starts", false, x.start(0, 0, 0, 0));
        due.is("1 no map: nobody steps", -1, x.step(1, 0, 0));
        due.is("1 no map: nowhere", 100000, x.walker(3));
        due.is("1 no map: nothing crossed", -1, x.crossed(0));
        due.is("1 no map: nothing stops", -1, x.stopper());
    }

    private static void newObjectHasNoInputs(Due due) {
        SectorWalk x = new SectorWalk();
        due.is("1 no inputs: look 6", 0, x.look(6));
        due.is("1 no inputs: undo 1", false, x.undo(1));
        due.is("1 no inputs: undo 0", true, x.undo(0));
        due.is("1 no inputs: play 0 without START", -1, x.play(0));
        due.is("1 no inputs: the first", 1, x.input(0, 0, 0));
    }

    private static void vertexWhoseXOrYIsNone(Due due) {
        SectorWalk x = new SectorWalk();
        // 65536 and its like would be small numbers if somebody kept them in shorts.
        for (int far : new int[] {-2001, 2001, -3000, 3000, -65536, 65536, MIN, MAX, MIN + 2000, MAX - 2000}) {
            due.is("2 x is none: " + far, -1, x.vertex(far, 0));
            due.is("2 y is none: " + far, -1, x.vertex(0, far));
            due.is("2 neither is one: " + far, -1, x.vertex(far, far));
        }
        due.is("2 none was kept", 0, x.look(0));
        due.is("2 no number was used up", 0, x.vertex(0, 0));
    }

    private static void vertexAtTheOutermostPlaces(Due due) {
        SectorWalk x = new SectorWalk();
        int[][] places = {{-2000, -2000}, {2000, -2000}, {-2000, 2000}, {2000, 2000}, {-2000, 0}, {0, 2000}};
        for (int i = 0; i < places.length; i++) {
            due.is("2 outermost " + i, i, x.vertex(places[i][0], places[i][1]));
        }
        due.is("2 outermost: all kept", places.length, x.look(0));
    }

    private static void vertexWhereThereIsOne(Due due) {
        SectorWalk x = new SectorWalk();
        due.is("2 the first there", 0, x.vertex(3, -4));
        due.is("2 there is one", -1, x.vertex(3, -4));
        due.is("2 turned about", 1, x.vertex(-4, 3));
        due.is("2 mirrored", 2, x.vertex(-3, 4));
        due.is("2 one beside", 3, x.vertex(4, -4));
        due.is("2 one above", 4, x.vertex(3, -3));
        for (int[] at : new int[][] {{3, -4}, {-4, 3}, {-3, 4}, {4, -4}, {3, -3}}) {
            due.is("2 there is one still", -1, x.vertex(at[0], at[1]));
        }
        due.is("2 five of them", 5, x.look(0));
        x.build();
        due.is("2 there is one behind build", -1, x.vertex(3, -4));
        x.clear();
        due.is("2 the place is free behind clear", 0, x.vertex(3, -4));
    }

    private static void vertexWhenThereAre64(Due due) {
        SectorWalk x = new SectorWalk();
        for (int i = 0; i < 64; i++) {
            due.is("2 vertex " + i, i, x.vertex(2000 - i, i - 2000));
        }
        due.is("2 the 65th", -1, x.vertex(0, 0));
        due.is("2 the 65th at the first one's place", -1, x.vertex(2000, -2000));
        due.is("2 there are 64", 64, x.look(0));
        x.sector(0, 128);
        due.is("2 number 63 is a vertex", 0, x.wall(63, 0, 0, -1));
        due.is("2 number 64 is none", -1, x.wall(64, 0, 0, -1));
        x.build();
        due.is("2 the 65th behind build", -1, x.vertex(0, 0));
        due.is("2 the map has 64", 64, x.look(3));
    }

    private static void sectorWhoseFloorOrCeilingIsNone(Due due) {
        SectorWalk x = new SectorWalk();
        int[][] wrong = {
            {-257, 0}, {-257, -256}, {-257, 256}, {0, 257}, {-256, 257}, {256, 257}, {257, 258}, {-258, -257},
            {-257, 257}, {MIN, 0}, {MIN, -256}, {0, MAX}, {MIN, MAX}, {MAX - 1, MAX}, {MIN, MIN + 1},
            {-65536, 0}, {0, 65536}, {65536, 65537},
        };
        for (int[] w : wrong) {
            due.is("3 floor or ceiling is none: " + w[0] + ", " + w[1], -1, x.sector(w[0], w[1]));
        }
        due.is("3 none was kept", 0, x.look(1));
        due.is("3 the lowest floor, the highest ceiling", 0, x.sector(-256, 256));
        due.is("3 the lowest ceiling", 1, x.sector(-256, -255));
        due.is("3 the highest floor", 2, x.sector(255, 256));
    }

    private static void sectorWhoseCeilingIsNotAboveItsFloor(Due due) {
        SectorWalk x = new SectorWalk();
        int number = 0;
        for (int floor : new int[] {-256, -255, -1, 0, 1, 128, 255, 256}) {
            due.is("3 as high as its floor " + floor, -1, x.sector(floor, floor));
            due.is("3 one below its floor " + floor, -1, x.sector(floor, floor - 1));
            due.is("3 far below its floor " + floor, -1, x.sector(floor, MIN));
            if (floor < 256) {
                due.is("3 one above its floor " + floor, number, x.sector(floor, floor + 1));
                number++;
            }
        }
        due.is("3 the highest below the lowest", -1, x.sector(256, -256));
        due.is("3 seven of them", 7, x.look(1));
    }

    private static void sectorWhenThereAre16(Due due) {
        SectorWalk x = new SectorWalk();
        for (int i = 0; i < 16; i++) {
            due.is("3 sector " + i + ", alike", i, x.sector(0, 128));
        }
        due.is("3 the 17th", -1, x.sector(0, 128));
        due.is("3 the 17th, another", -1, x.sector(1, 128));
        due.is("3 there are 16", 16, x.look(1));
        x.vertex(0, 0);
        x.vertex(1, 0);
        due.is("3 number 15 is a sector", 0, x.wall(0, 1, 15, 15));
        due.is("3 number 16 is none", -1, x.wall(0, 1, 16, 15));
        due.is("3 number 16 is none behind either", -1, x.wall(0, 1, 15, 16));
        x.build();
        due.is("3 the 17th behind build", -1, x.sector(0, 128));
        due.is("3 the map has 16", 16, x.look(4));
        due.is("3 somebody is in number 15", true, x.start(0, 0, 0, 15));
        due.is("3 nobody is in number 16", false, x.start(0, 0, 0, 16));
    }

    private static void wallWithoutBack(Due due) {
        SectorWalk x = Maps.draft(new int[][] {{0, 0}, {1, 0}}, new int[][] {ROOM}, new int[][] {});
        due.is("4 back -1", 0, x.wall(0, 1, 0, -1));
        due.is("4 back 0", 1, x.wall(0, 1, 0, 0));
        due.is("4 back -2", -1, x.wall(0, 1, 0, -2));
        due.is("4 front -1", -1, x.wall(0, 1, -1, 0));
        due.is("4 neither", -1, x.wall(0, 1, -1, -1));
        due.is("4 two of them", 2, x.look(2));
    }

    private static void wallOfNoSuchVertices(Due due) {
        SectorWalk x = Maps.draft(new int[][] {}, new int[][] {ROOM}, new int[][] {});
        due.is("4 no vertices", -1, x.wall(0, 1, 0, -1));
        x.vertex(0, 0);
        due.is("4 one vertex", -1, x.wall(0, 1, 0, -1));
        due.is("4 one vertex, back to it", -1, x.wall(1, 0, 0, -1));
        x.vertex(1, 0);
        for (int far : new int[] {-1, 2, 63, 64, 65, MIN, MAX}) {
            due.is("4 from no such vertex " + far, -1, x.wall(far, 0, 0, -1));
            due.is("4 to no such vertex " + far, -1, x.wall(0, far, 0, -1));
        }
        due.is("4 none was kept", 0, x.look(2));
        due.is("4 from the first to the last", 0, x.wall(0, 1, 0, -1));
        x.build();
        x.clear();
        x.sector(0, 128);
        due.is("4 the map's vertices are not the draft's", -1, x.wall(0, 1, 0, -1));
    }

    private static void wallOfNoSuchSectors(Due due) {
        SectorWalk x = Maps.draft(new int[][] {{0, 0}, {1, 0}}, new int[][] {}, new int[][] {});
        due.is("4 no sectors", -1, x.wall(0, 1, 0, -1));
        x.sector(0, 128);
        x.sector(0, 128);
        for (int far : new int[] {2, 15, 16, 17, -2, MIN, MAX}) {
            due.is("4 no such front " + far, -1, x.wall(0, 1, far, 0));
            due.is("4 no such back " + far, -1, x.wall(0, 1, 0, far));
        }
        due.is("4 no such front -1", -1, x.wall(0, 1, -1, 0));
        due.is("4 none was kept", 0, x.look(2));
        due.is("4 the last as front", 0, x.wall(0, 1, 1, 0));
        due.is("4 the last as back", 1, x.wall(0, 1, 0, 1));
        due.is("4 one as both", 2, x.wall(0, 1, 1, 1));
    }

    private static void wallFromAVertexToItself(Due due) {
        SectorWalk x = Maps.draft(new int[][] {{0, 0}, {1, 0}, {2, 0}}, new int[][] {ROOM}, new int[][] {});
        for (int v = 0; v < 3; v++) {
            due.is("4 from " + v + " to itself", -1, x.wall(v, v, 0, -1));
            due.is("4 from " + v + " to itself, with a back", -1, x.wall(v, v, 0, 0));
        }
        due.is("4 none was kept", 0, x.look(2));
    }

    private static void wallWhenThereAre64(Due due) {
        SectorWalk x = nearlyFull();
        due.is("4 the 64th", 63, x.wall(0, 63, 0, -1));
        due.is("4 the 65th", -1, x.wall(0, 63, 0, -1));
        due.is("4 the 65th, another", -1, x.wall(5, 9, 3, 4));
        due.is("4 there are 64", 64, x.look(2));
        x.drop();
        due.is("4 the 64th again", 63, x.wall(63, 61, 15, 0));
        due.is("4 the 65th again", -1, x.wall(0, 63, 0, -1));
        due.is("4 a full draft is built", -1, x.build());
        looks(due, "4 a full map", x, 3, 64, 16, 64);
        due.is("4 the 65th behind build", -1, x.wall(0, 63, 0, -1));
    }

    private static void dropTheLastWall(Due due) {
        SectorWalk x = Maps.draft(new int[][] {{0, 0}, {10, 0}, {5, -5}, {5, 5}, {0, 9}, {10, 9}},
            new int[][] {ROOM}, new int[][] {{0, 1, 0, -1}, {4, 5, 0, -1}, {2, 3, 0, -1}});
        due.is("5 with the last wall", 2, x.build());
        due.is("5 the last goes", true, x.drop());
        looks(due, "5 but nothing else", x, 0, 6, 1, 2);
        due.is("5 without the last wall", -1, x.build());
        due.is("5 the map's walls", 2, x.look(5));
        due.is("5 the next goes", true, x.drop());
        due.is("5 the map's walls stay", 2, x.look(5));
        due.is("5 its number is given again", 1, x.wall(2, 3, 0, -1));
        due.is("5 it is another wall", 1, x.build());
    }

    private static void dropWhenThereIsNone(Due due) {
        SectorWalk x = Maps.draft(new int[][] {{0, 0}, {10, 0}}, new int[][] {ROOM}, new int[][] {{0, 1, 0, -1}});
        due.is("5 the only one goes", true, x.drop());
        due.is("5 there is none", false, x.drop());
        due.is("5 there is none still", false, x.drop());
        looks(due, "5 there is none", x, 0, 2, 1, 0);
        due.is("5 the first again", 0, x.wall(0, 1, 0, -1));
        x.build();
        x.clear();
        due.is("5 the map's wall is not the draft's", false, x.drop());
        due.is("5 the map's wall stays", 1, x.look(5));
        SectorWalk full = nearlyFull();
        for (int i = 63; i > 0; i--) {
            due.is("5 of " + i, true, full.drop());
        }
        due.is("5 of none", false, full.drop());
    }

    private static void clearAnEmptyDraft(Due due) {
        SectorWalk x = new SectorWalk();
        x.clear();
        looks(due, "6 clear of nothing", x, 0, 0, 0, 0, -1, -1, -1, 0, 0, 0);
        x.clear();
        due.is("6 twice", 0, x.vertex(0, 0));
    }

    private static void clearAFullDraft(Due due) {
        SectorWalk x = nearlyFull();
        x.wall(0, 63, 0, -1);
        x.clear();
        looks(due, "6 clear of all", x, 0, 0, 0, 0);
        due.is("6 nothing to drop", false, x.drop());
        due.is("6 no vertices", -1, x.wall(0, 1, 0, -1));
        due.is("6 an empty draft is right", -1, x.build());
        looks(due, "6 an empty map", x, 3, 0, 0, 0);
        for (int i = 0; i < 64; i++) {
            due.is("6 room for vertex " + i, i, x.vertex(i, 0));
        }
        for (int i = 0; i < 16; i++) {
            due.is("6 room for sector " + i, i, x.sector(0, 1));
        }
        for (int i = 0; i < 64; i++) {
            due.is("6 room for wall " + i, i, x.wall(0, 1, 0, -1));
        }
    }

    private static void clearLeavesAllButTheDraft(Due due) {
        SectorWalk x = Maps.built(new int[][] {{10, -9}, {10, 9}}, new int[][] {ROOM}, new int[][] {{0, 1, 0, -1}});
        x.start(0, 0, 0, 0);
        x.input(5, 0, 0);
        x.input(5, 0, 0);
        due.is("6 before clear", 1, x.play(2));
        x.clear();
        looks(due, "6 clear", x, 0, 0, 0, 0, 2, 1, 1, 2, 1, 1);
        due.is("6 the walker stays", 5, x.walker(0));
        due.is("6 crossed stays", 0, x.crossed(0));
        due.is("6 the stopper stays", 0, x.stopper());
        due.is("6 START, INPUTS and MAP stay", 1, x.play(2));
    }

    private static void buildWithoutTwoWalls(Due due) {
        SectorWalk x = new SectorWalk();
        due.is("7 nothing", -1, x.build());
        looks(due, "7 nothing", x, 3, 0, 0, 0);
        due.is("7 nothing: nobody starts", false, x.start(0, 0, 0, 0));
        x.sector(0, 128);
        due.is("7 no wall", -1, x.build());
        looks(due, "7 no wall", x, 3, 0, 1, 0);
        x.vertex(0, 0);
        x.vertex(2000, 2000);
        x.wall(0, 1, 0, -1);
        due.is("7 one wall", -1, x.build());
        looks(due, "7 one wall", x, 3, 2, 1, 1, 0, 0, 3);
    }

    /** RIGHT asks for places of two WALLS, and says nothing of a VERTEX that no second wall has. */
    private static void buildWithAVertexOnAWall(Due due) {
        SectorWalk x = Maps.draft(new int[][] {{0, 0}, {10, 0}, {5, 0}, {5, 9}}, new int[][] {ROOM},
            new int[][] {{0, 1, 0, -1}});
        due.is("7 a vertex on a wall", -1, x.build());
        x.wall(2, 3, 0, -1);
        due.is("7 a wall from that vertex", 1, x.build());
    }

    private static int ofTwo(int[][] vertices, int[] first, int[] second) {
        return Maps.draft(vertices, new int[][] {ROOM},
            new int[][] {{first[0], first[1], 0, -1}, {second[0], second[1], 0, -1}}).build();
    }

    private static void buildWithWallsThatMeetAtAVertexOfBoth(Due due) {
        int[][] corner = {{0, 0}, {10, 0}, {10, 1}};
        int[][] line = {{0, 0}, {10, 0}, {-10, 0}};
        int[][] overlap = {{0, 0}, {10, 0}, {11, 0}};
        for (int i = 0; i < 4; i++) {
            int[] first = i % 2 == 0 ? new int[] {0, 1} : new int[] {1, 0};
            int[] second = i < 2 ? new int[] {0, 2} : new int[] {2, 0};
            due.is("7 only a vertex of both, " + i, -1, ofTwo(corner, first, second));
            due.is("7 only a vertex of both, on one line, " + i, -1, ofTwo(line, first, second));
            due.is("7 a vertex of both and more, " + i, 1, ofTwo(overlap, first, second));
            due.is("7 more and a vertex of both, " + i, 1, ofTwo(overlap, second, first));
        }
        due.is("7 two vertices of both", 1, ofTwo(corner, new int[] {0, 1}, new int[] {0, 1}));
        due.is("7 two vertices of both, turned", 1, ofTwo(corner, new int[] {0, 1}, new int[] {1, 0}));
    }

    /** Two walls leave a vertex of both on one line: to both sides of it they go on, to one they overlap. */
    private static void buildWithArmsOnOneLine(Due due) {
        int[] arms = {-9, -5, -1, 1, 5, 9};
        for (int[] way : new int[][] {{1, 0}, {0, 1}, {1, 1}, {3, -2}, {200, 200}}) {
            for (int p : arms) {
                for (int q : arms) {
                    if (p != q) {
                        int[][] vertices = {{0, 0}, {p * way[0], p * way[1]}, {q * way[0], q * way[1]}};
                        due.is("7 arms " + p + " and " + q + " by " + way[0] + ", " + way[1], p * q > 0 ? 1 : -1,
                            ofTwo(vertices, new int[] {0, 1}, new int[] {0, 2}));
                    }
                }
            }
        }
    }

    private static void buildWithWallsThatMeetElsewhere(Due due) {
        int[] first = {0, 1};
        int[] second = {2, 3};
        due.is("7 a vertex of the second alone", 1, ofTwo(new int[][] {{0, 0}, {2, 2}, {1, 1}, {0, 9}}, first, second));
        due.is("7 a vertex of the first alone", 1, ofTwo(new int[][] {{1, 1}, {0, 9}, {0, 0}, {2, 2}}, first, second));
        due.is("7 a vertex of none", 1, ofTwo(new int[][] {{0, 0}, {2, 2}, {0, 2}, {2, 0}}, first, second));
        due.is("7 no whole place", 1, ofTwo(new int[][] {{0, 0}, {1, 1}, {0, 1}, {1, 0}}, first, second));
        due.is("7 the outermost ones", 1,
            ofTwo(new int[][] {{-2000, -2000}, {2000, 2000}, {-2000, 2000}, {2000, -2000}}, first, second));
        due.is("7 a hair inside the end", 1,
            ofTwo(new int[][] {{-2000, -2000}, {2000, 1999}, {2000, 2000}, {1999, 1998}}, first, second));
        due.is("7 a hair outside the end", -1,
            ofTwo(new int[][] {{-2000, -2000}, {1999, 1998}, {2000, 2000}, {2000, 1999}}, first, second));
        due.is("7 end before end", -1, ofTwo(new int[][] {{0, 0}, {4, 4}, {5, 5}, {9, 9}}, first, second));
    }

    private static void buildAnswersTheLeastWall(Due due) {
        int[][] vertices = {
            {0, 0}, {90, 0}, {0, 10}, {90, 10}, {0, 20}, {90, 20}, {0, 30}, {90, 30},
            {5, 25}, {5, 35}, {15, -5}, {15, 5},
        };
        SectorWalk x = Maps.draft(vertices, new int[][] {ROOM}, new int[][] {
            {0, 1, 0, -1}, {2, 3, 0, -1}, {4, 5, 0, -1}, {6, 7, 0, -1}, {8, 9, 0, -1}, {10, 11, 0, -1},
        });
        due.is("7 4 meets 3, 5 meets 0", 4, x.build());
        SectorWalk y = Maps.draft(vertices, new int[][] {ROOM}, new int[][] {
            {0, 1, 0, -1}, {2, 3, 0, -1}, {4, 5, 0, -1}, {6, 7, 0, -1}, {10, 11, 0, -1}, {8, 9, 0, -1},
        });
        due.is("7 4 meets 0, 5 meets 3", 4, y.build());
        y.drop();
        due.is("7 the same without 5", 4, y.build());
        y.drop();
        due.is("7 right without both", -1, y.build());
        SectorWalk z = Maps.draft(vertices, new int[][] {ROOM},
            new int[][] {{0, 1, 0, -1}, {0, 1, 0, -1}, {0, 1, 0, -1}});
        due.is("7 never wall 0", 1, z.build());
    }

    private static void buildAnswersTheHighestWall(Due due) {
        SectorWalk x = nearlyFull();
        x.wall(0, 63, 0, -1);
        due.is("7 wall 63", 63, x.build());
        x.drop();
        due.is("7 without wall 63", -1, x.build());
        SectorWalk y = nearlyFull();
        y.wall(63, 62, 0, -1);
        due.is("7 wall 63 over wall 62", 63, y.build());
    }

    private static SectorWalk wrongDraft() {
        return Maps.draft(new int[][] {{0, 0}, {9, 0}}, new int[][] {ROOM}, new int[][] {{0, 1, 0, 0}, {1, 0, 0, 0}});
    }

    private static void buildRefusedAtFirst(Due due) {
        SectorWalk x = wrongDraft();
        due.is("7 refused at first", 1, x.build());
        looks(due, "7 refused at first", x, 0, 2, 1, 2, -1, -1, -1, 0, 0, 0);
        due.is("7 refused at first: nobody starts", false, x.start(0, 0, 0, 0));
        due.is("7 refused twice", 1, x.build());
        x.drop();
        due.is("7 mended", -1, x.build());
        looks(due, "7 mended", x, 3, 2, 1, 1, 0, 0, 1);
    }

    private static void buildRefusedLater(Due due) {
        SectorWalk x = Maps.built(new int[][] {{10, -9}, {10, 9}}, new int[][] {ROOM, ROOM},
            new int[][] {{0, 1, 0, 1}});
        x.start(0, 0, 0, 1);
        x.input(15, 0, 3);
        x.step(15, 0, 0);
        x.clear();
        x.vertex(0, 0);
        x.vertex(5, 0);
        x.sector(0, 128);
        x.wall(0, 1, 0, -1);
        x.wall(0, 1, 0, -1);
        due.is("7 refused later", 1, x.build());
        looks(due, "7 refused later", x, 0, 2, 1, 2, 2, 2, 1, 1, 1, 1);
        due.is("7 refused later: the walker stays", 15, x.walker(0));
        due.is("7 refused later: its sector stays", 0, x.walker(3));
        due.is("7 refused later: crossed stays", 0, x.crossed(0));
        due.is("7 refused later: START stays", 0, x.play(0));
        due.is("7 refused later: at START", 0, x.walker(0));
        due.is("7 refused later: the map's walls stay", 1, x.step(15, 0, 0));
        due.is("7 refused later: still crossed", 0, x.crossed(0));
    }

    private static void buildTakesTheStartAway(Due due) {
        SectorWalk x = Maps.built(new int[][] {{10, -9}, {10, 9}}, new int[][] {ROOM}, new int[][] {{0, 1, 0, -1}});
        x.start(0, 0, 0, 0);
        x.input(15, 0, 0);
        due.is("7 stopped before", 1, x.play(1));
        due.is("7 the same draft again", -1, x.build());
        looks(due, "7 the same draft again", x, 3, 2, 1, 1, 1, 0, 2);
        for (int what = 0; what < 4; what++) {
            due.is("7 nowhere " + what, 100000, x.walker(what));
        }
        due.is("7 no START to play from", -1, x.play(1));
        due.is("7 no START to play nothing from", -1, x.play(0));
        due.is("7 no START to step from", -1, x.step(0, 0, 0));
        due.is("7 crossed is gone", -1, x.crossed(0));
        due.is("7 the stopper is gone", -1, x.stopper());
        due.is("7 start again", true, x.start(0, 0, 0, 0));
        due.is("7 crossed stays gone", -1, x.crossed(0));
        due.is("7 the inputs were there all the time", 1, x.play(1));
    }

    private static void buildCopies(Due due) {
        SectorWalk x = Maps.built(new int[][] {{10, -9}, {10, 9}}, new int[][] {ROOM}, new int[][] {{0, 1, 0, -1}});
        x.start(0, 0, 0, 0);
        x.drop();
        due.is("7 a wall dropped from the draft", 2, x.step(15, 0, 0));
        x.sector(0, 128);
        due.is("7 a sector only of the draft", false, x.start(0, 0, 0, 1));
        x.wall(1, 0, 0, 1);
        due.is("7 another wall in the draft", 2, x.step(15, 0, 0));
        due.is("7 built anew", -1, x.build());
        due.is("7 a sector of both now", true, x.start(0, 0, 0, 1));
        x.start(0, 0, 0, 0);
        due.is("7 the new wall lets through", 1, x.step(15, 0, 0));
        due.is("7 into its other side", 1, x.walker(3));
    }
}
