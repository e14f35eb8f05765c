/**
 * A test for each sentence of the document's Terms that names a boundary case of a RAY or a STEP (promise 12,
 * and 13 and 14 by what it crosses), in the order of the document.
 */
public final class StepEdgesTest {
    private static final int[] ROOM = {0, 128};

    public static void main(String[] args) {
        Due due = new Due();
        seamsOfTheAngles(due);
        justOneIsBelowNone(due);
        rayAlongAWall(due);
        quotientAboveNone(due);
        rayFromAPlaceOnAWall(due);
        fromFrontOrBack(due);
        angleModulo64(due);
        roundedDown(due);
        moveOfNothing(due);
        quotientUpToOne(due);
        sameQuotientByNumbers(due);
        sameQuotientStopper(due);
        stopsWithoutBack(due);
        stopsByMoreThan24(due);
        stopsByLessThan56(due);
        stopsByNearOfTheWallNotOfTheWalker(due);
        stopsWhereverItIsOnTheWay(due);
        leavesWhatIsWithin(due);
        sectorOfTheLast(due);
        sectorAsItWas(due);
        due.end();
    }

    private static void isAt(Due due, String when, SectorWalk x, int... want) {
        for (int what = 0; what < want.length; what++) {
            due.is(when + ": walker " + what, want[what], x.walker(what));
        }
    }

    private static void crosses(Due due, String when, SectorWalk x, int... walls) {
        for (int i = 0; i < walls.length; i++) {
            due.is(when + ": crossed " + i, walls[i], x.crossed(i));
        }
        due.is(when + ": no more", -1, x.crossed(walls.length));
    }

    /** One wall between two rooms of one height; its front is sector 0, its back sector 1. */
    private static SectorWalk oneWall(int ax, int ay, int bx, int by) {
        return Maps.built(new int[][] {{ax, ay}, {bx, by}}, new int[][] {ROOM, ROOM}, new int[][] {{0, 1, 0, 1}});
    }

    /** The angles where one formula of C ends and the next one begins, 64 ahead and 64 aside. */
    private static void seamsOfTheAngles(Due due) {
        int[][] seams = {
            {0, 64, 0, 0, -64}, {1, 63, 6, 6, -64}, {15, 6, 63, 63, -7}, {16, 0, 64, 64, 0}, {17, -7, 63, 63, 6},
            {31, -64, 6, 6, 63}, {32, -64, 0, 0, 64}, {33, -64, -7, -7, 63}, {47, -7, -64, -64, 6},
            {48, 0, -64, -64, 0}, {49, 6, -64, -64, -7}, {63, 63, -7, -7, -64},
        };
        for (int[] s : seams) {
            SectorWalk x = Maps.field(0, 0, s[0]);
            due.is("ahead at " + s[0], 1, x.step(64, 0, 0));
            isAt(due, "ahead at " + s[0], x, s[1], s[2], s[0]);
            x.play(0);
            due.is("aside at " + s[0], 1, x.step(0, 64, 0));
            isAt(due, "aside at " + s[0], x, s[3], s[4], s[0]);
        }
    }

    /** With M along x from (0, 0), a and b have the signs of the y of A and B. */
    private static void justOneIsBelowNone(Due due) {
        int[][] ends = {
            {-1, 0, 1}, {0, -1, 1}, {-1, 1, 1}, {1, -1, 1}, {-2000, 0, 1}, {0, -2000, 1}, {-2000, 2000, 1},
            {0, 1, 0}, {1, 0, 0}, {1, 2, 0}, {2, 1, 0}, {-1, -2, 0}, {-2, -1, 0}, {0, 2000, 0}, {-1, -2000, 0},
        };
        for (int[] e : ends) {
            String when = "just one below 0, " + e[0] + " and " + e[1];
            SectorWalk x = oneWall(10, e[0], 10, e[1]);
            x.start(0, 0, 0, 0);
            due.is(when, 1, x.step(20, 0, 0));
            due.is(when + ": crossed", e[2] - 1, x.crossed(0));
            // Turned about, the ray has the other half of the plane below 0.
            x.start(20, 0, 32, 0);
            due.is(when + ", turned", 1, x.step(20, 0, 0));
            boolean other = e[0] > 0 != e[1] > 0;
            due.is(when + ", turned: crossed", other ? 0 : -1, x.crossed(0));
        }
    }

    private static void rayAlongAWall(Due due) {
        SectorWalk x = Maps.built(new int[][] {{10, 0}, {20, 0}, {10, 1}, {20, 1}}, new int[][] {ROOM},
            new int[][] {{0, 1, 0, -1}, {2, 3, 0, -1}});
        for (int y = -1; y <= 2; y++) {
            x.start(0, y, 0, 0);
            due.is("along, " + y, 1, x.step(30, 0, 0));
            crosses(due, "along, " + y, x);
            x.start(15, y, 32, 0);
            due.is("along from between, " + y, 1, x.step(30, 0, 0));
            crosses(due, "along from between, " + y, x);
        }
    }

    private static void quotientAboveNone(Due due) {
        SectorWalk x = oneWall(-1, -1, -1, 1);
        x.start(0, 0, 0, 1);
        due.is("behind", 1, x.step(20, 0, 0));
        crosses(due, "behind", x);
        SectorWalk y = oneWall(0, -1, 1, 2000);
        y.start(0, 0, 0, 1);
        due.is("a hair before", 1, y.step(1, 0, 0));
        crosses(due, "a hair before", y, 0);
        SectorWalk z = oneWall(0, -1, -1, 2000);
        z.start(0, 0, 0, 1);
        due.is("a hair behind", 1, z.step(1, 0, 0));
        crosses(due, "a hair behind", z);
    }

    private static void rayFromAPlaceOnAWall(Due due) {
        for (int turned = 0; turned < 2; turned++) {
            SectorWalk x = turned == 0 ? oneWall(0, -9, 0, 9) : oneWall(0, 9, 0, -9);
            for (int y : new int[] {-9, -8, 0, 8, 9}) {
                for (int angle = 0; angle < 64; angle += 8) {
                    x.start(0, y, angle, 1);
                    due.is("from the wall at " + y + ", angle " + angle, 1, x.step(20, 0, 0));
                    crosses(due, "from the wall at " + y + ", angle " + angle, x);
                    due.is("from the wall at " + y + ", angle " + angle + ": sector", 1, x.walker(3));
                }
            }
        }
    }

    private static void fromFrontOrBack(Due due) {
        int[][] walls = {{0, -9, 0, 9, 0}, {0, 9, 0, -9, 32}, {-9, 0, 9, 0, 48}, {9, 0, -9, 0, 16}};
        for (int[] w : walls) {
            SectorWalk x = oneWall(w[0], w[1], w[2], w[3]);
            x.start(0, 0, w[4], 0);
            x.step(-10, 0, 0);
            due.is("from the back, angle " + w[4], 1, x.step(20, 0, 0));
            due.is("from the back, angle " + w[4] + ": sector", 0, x.walker(3));
            due.is("from the front, angle " + w[4], 1, x.step(-20, 0, 0));
            due.is("from the front, angle " + w[4] + ": sector", 1, x.walker(3));
        }
    }

    private static void angleModulo64(Due due) {
        int[][] turns = {
            {63, 1, 0}, {0, -1, 63}, {63, 16, 15}, {48, 16, 0}, {47, 16, 63}, {0, -16, 48}, {15, -16, 63},
            {16, -16, 0}, {0, 16, 16}, {63, -16, 47}, {63, 0, 63}, {0, 0, 0},
        };
        for (int[] t : turns) {
            SectorWalk x = Maps.field(0, 0, t[0]);
            due.is(t[0] + " turned by " + t[1], 0, x.step(0, 0, t[1]));
            isAt(due, t[0] + " turned by " + t[1], x, 0, 0, t[2], 0);
            x.input(0, 0, t[1]);
            due.is(t[0] + " turned by the input " + t[1], 0, x.play(1));
            isAt(due, t[0] + " turned by the input " + t[1], x, 0, 0, t[2], 0);
        }
        SectorWalk y = Maps.field(0, 0, 0);
        for (int i = 1; i <= 12; i++) {
            y.step(0, 0, -16);
            due.is("round and round back " + i, Math.floorMod(-16 * i, 64), y.walker(2));
        }
    }

    /** At angle 2 AHEAD is (251, 50) and ASIDE (50, -251). */
    private static void roundedDown(Due due) {
        int[][] moves = {
            {1, 0, 0, 0}, {-1, 0, -1, -1}, {2, 0, 1, 0}, {-2, 0, -2, -1}, {0, 1, 0, -1}, {0, -1, -1, 0},
            {1, 1, 1, -1}, {-1, -1, -2, 0}, {1, -1, 0, 1}, {-1, 1, -1, -2}, {64, 64, 75, -51}, {-64, -64, -76, 50},
        };
        for (int[] m : moves) {
            SectorWalk x = Maps.field(0, 0, 2);
            boolean none = m[2] == 0 && m[3] == 0;
            due.is("rounded down, " + m[0] + " and " + m[1], none ? 0 : 1, x.step(m[0], m[1], 0));
            isAt(due, "rounded down, " + m[0] + " and " + m[1], x, m[2], m[3], 2);
        }
        SectorWalk y = Maps.field(0, 0, 0);
        due.is("nothing to round", 1, y.step(-1, 0, 0));
        isAt(due, "nothing to round", y, -1, 0, 0);
    }

    private static void moveOfNothing(Due due) {
        SectorWalk x = Maps.built(new int[][] {{0, -9}, {0, 9}, {1, -9}, {1, 9}}, new int[][] {ROOM, ROOM},
            new int[][] {{0, 1, 0, -1}, {2, 3, 0, -1}});
        x.start(0, 0, 0, 1);
        due.is("stopped first", 2, x.step(1, 0, 0));
        due.is("nothing", 0, x.step(0, 0, 0));
        isAt(due, "nothing", x, 0, 0, 0, 1);
        crosses(due, "nothing", x);
        due.is("nothing stops", -1, x.stopper());
        due.is("a turn alone", 0, x.step(0, 0, 1));
        isAt(due, "a turn alone", x, 0, 0, 1, 1);
        due.is("rounded to nothing", 0, x.step(1, 0, 14));
        due.is("nothing to round at angle 16", 1, x.step(1, 0, 1));
        x.start(0, 0, 0, 1);
        due.is("turned and rounded to nothing", 0, x.step(1, 0, 15));
        isAt(due, "turned and rounded to nothing", x, 0, 0, 15, 1);
        crosses(due, "turned and rounded to nothing", x);
        x.start(3000, 3000, 0, 1);
        due.is("nothing at the edge", 0, x.step(0, 0, 16));
        isAt(due, "nothing at the edge", x, 3000, 3000, 16, 1);
    }

    private static void quotientUpToOne(Due due) {
        int[][] walls = {{10, -1, 10, 2000, 0}, {10, 1, 9, -2000, 0}, {10, -1, 11, 2000, -1}, {11, -1, 11, 1, -1}};
        for (int turned = 0; turned < 2; turned++) {
            for (int i = 0; i < walls.length; i++) {
                int[] w = walls[i];
                SectorWalk x = turned == 0 ? oneWall(w[0], w[1], w[2], w[3]) : oneWall(w[2], w[3], w[0], w[1]);
                x.start(0, 0, 0, 0);
                due.is("just 1, a hair below, a hair above, far above: " + i, 1, x.step(10, 0, 0));
                due.is("just 1, a hair below, a hair above, far above: crossed " + i, w[4], x.crossed(0));
            }
        }
        SectorWalk y = Maps.built(new int[][] {{10, -9}, {10, 9}}, new int[][] {ROOM}, new int[][] {{0, 1, 0, -1}});
        y.start(0, 0, 0, 0);
        due.is("one short of a wall that stops", 1, y.step(9, 0, 0));
        due.is("just onto a wall that stops", 2, y.step(1, 0, 0));
        due.is("still one short", 9, y.walker(0));
    }

    /** Walls 1, 3 and 4 leave (10, 0) downwards, 2 is nearer and 0 is farther. */
    private static SectorWalk fan(int... backs) {
        return Maps.built(
            new int[][] {{10, 0}, {15, -20}, {5, -7}, {10, -3}, {5, 5}, {5, -5}, {16, -5}, {16, 5}},
            new int[][] {ROOM, ROOM, ROOM, ROOM, ROOM},
            new int[][] {
                {6, 7, 0, backs[0]}, {0, 1, 0, backs[1]}, {5, 4, 0, backs[2]}, {2, 0, backs[3] < 0 ? 0 : 3, backs[3]},
                {0, 3, 0, backs[4]},
            });
    }

    private static void sameQuotientByNumbers(Due due) {
        SectorWalk x = fan(0, 1, 2, 3, 4);
        x.start(0, 0, 0, 0);
        due.is("same R", 1, x.step(20, 0, 0));
        crosses(due, "same R", x, 2, 1, 3, 4, 0);
        x.start(0, 0, 0, 0);
        due.is("same R, just 1", 1, x.step(10, 0, 0));
        crosses(due, "same R, just 1", x, 2, 1, 3, 4);
        due.is("same R, just 1: FAR of the highest number", 4, x.walker(3));
        x.start(20, 0, 32, 0);
        due.is("same R, from the right: none below 0", 1, x.step(20, 0, 0));
        crosses(due, "same R, from the right", x, 0, 2);
    }

    private static void sameQuotientStopper(Due due) {
        int[][] backs = {
            {0, -1, 0, 0, 0, 1}, {0, 0, 0, -1, 0, 3}, {0, 0, 0, 0, -1, 4}, {0, -1, 0, -1, -1, 1}, {0, 0, 0, -1, -1, 3},
            {-1, 0, 0, 0, -1, 4}, {-1, 0, -1, -1, 0, 2}, {-1, 0, 0, 0, 0, 0}, {0, 0, 0, 0, 0, -1},
        };
        for (int i = 0; i < backs.length; i++) {
            SectorWalk x = fan(backs[i]);
            x.start(0, 0, 0, 0);
            due.is("same R, stopped " + i, backs[i][5] < 0 ? 1 : 2, x.step(20, 0, 0));
            due.is("same R, stopper " + i, backs[i][5], x.stopper());
            crosses(due, "same R, stopped " + i, x, 2, 1, 3, 4, 0);
        }
    }

    private static void stopsWithoutBack(Due due) {
        SectorWalk x = Maps.built(new int[][] {{0, -9}, {0, 9}}, new int[][] {{-256, 256}},
            new int[][] {{0, 1, 0, -1}});
        for (int angle : new int[] {0, 32}) {
            x.start(angle == 0 ? -5 : 5, 0, angle, 0);
            due.is("no BACK at " + angle, 2, x.step(10, 0, 0));
            due.is("no BACK at " + angle + ": stopper", 0, x.stopper());
            isAt(due, "no BACK at " + angle, x, angle == 0 ? -5 : 5, 0, angle, 0);
        }
    }

    /** From the back to the front of the gate, then from its front to its back. */
    private static void passes(Due due, String when, int[] near, int[] far, int want) {
        SectorWalk x = Maps.gate(far, near);
        x.start(0, 0, 0, 1);
        due.is(when + ", from the back", want, x.step(20, 0, 0));
        due.is(when + ", from the back: stopper", want == 2 ? 0 : -1, x.stopper());
        SectorWalk y = Maps.gate(near, far);
        y.start(20, 0, 32, 0);
        due.is(when + ", from the front", want, y.step(20, 0, 0));
        due.is(when + ", from the front: stopper", want == 2 ? 0 : -1, y.stopper());
    }

    private static void stopsByMoreThan24(Due due) {
        for (int floor : new int[] {-256, -25, -24, -12, -1, 0, 1, 100}) {
            int[] near = {floor, 256};
            passes(due, "23 above " + floor, near, new int[] {floor + 23, 256}, 1);
            passes(due, "24 above " + floor, near, new int[] {floor + 24, 256}, 1);
            passes(due, "25 above " + floor, near, new int[] {floor + 25, 256}, 2);
            passes(due, "25 below, to " + floor, new int[] {floor + 25, 256}, near, 1);
        }
        passes(due, "as far up as can be", new int[] {-256, 256}, new int[] {200, 256}, 2);
        passes(due, "as far down as can be", new int[] {200, 256}, new int[] {-256, 256}, 1);
    }

    private static void stopsByLessThan56(Due due) {
        for (int floor : new int[] {-256, -56, -28, 0, 128, 200}) {
            for (int high = 55; high <= 56; high++) {
                int want = high == 56 ? 1 : 2;
                int[] tall = {floor, 256};
                int[] low = {floor, floor + high};
                passes(due, high + " above " + floor + " on both sides", low, low, want);
                passes(due, high + " above " + floor + " behind", tall, low, want);
                passes(due, high + " above " + floor + " before", low, tall, want);
            }
        }
        passes(due, "the lower ceiling before, the higher floor behind", new int[] {0, 80}, new int[] {24, 200}, 1);
        passes(due, "one less of that ceiling", new int[] {0, 79}, new int[] {24, 200}, 2);
        passes(due, "the lower ceiling behind, the higher floor before", new int[] {50, 200}, new int[] {0, 106}, 1);
        passes(due, "one more of that floor", new int[] {51, 200}, new int[] {0, 106}, 2);
        passes(due, "a ceiling at the other's floor", new int[] {100, 200}, new int[] {0, 100}, 2);
        passes(due, "a ceiling below the other's floor", new int[] {200, 256}, new int[] {-256, -200}, 2);
    }

    /** Who starts in a sector that is not the wall's NEAR is judged by NEAR all the same. */
    private static void stopsByNearOfTheWallNotOfTheWalker(Due due) {
        SectorWalk x = Maps.built(new int[][] {{10, -9}, {10, 9}},
            new int[][] {{25, 256}, {0, 256}, {200, 256}, {0, 1}}, new int[][] {{0, 1, 0, 1}});
        for (int sector = 0; sector < 4; sector++) {
            x.start(0, 0, 0, sector);
            due.is("up from the back, in " + sector, 2, x.step(20, 0, 0));
            due.is("the sector stays " + sector, sector, x.walker(3));
            x.start(20, 0, 32, sector);
            due.is("down from the front, in " + sector, 1, x.step(20, 0, 0));
            due.is("the sector is FAR, from " + sector, 1, x.walker(3));
        }
    }

    private static void stopsWhereverItIsOnTheWay(Due due) {
        for (int stopping = 0; stopping < 3; stopping++) {
            int[][] walls = {{0, 1, 0, 1}, {2, 3, 0, 1}, {4, 5, 0, 1}};
            walls[stopping][3] = -1;
            SectorWalk x = Maps.built(new int[][] {{10, -9}, {10, 9}, {20, -9}, {20, 9}, {30, -9}, {30, 9}},
                new int[][] {ROOM, ROOM}, walls);
            x.start(0, 0, 60, 1);
            due.is("stopped by " + stopping, 2, x.step(30, 0, 4));
            due.is("stopped by " + stopping + ": stopper", stopping, x.stopper());
            crosses(due, "stopped by " + stopping, x, 0, 1, 2);
            isAt(due, "stopped by " + stopping + ": no part of the way is gone", x, 0, 0, 0, 1);
            due.is("short of " + stopping, 1, x.step(10 * stopping + 9, 0, 0));
        }
    }

    private static void leavesWhatIsWithin(Due due) {
        int[][] rows = {
            {2999, 0, 0, 1, 1}, {2999, 0, 0, 2, 2}, {-2999, 0, 32, 1, 1}, {-2999, 0, 32, 2, 2}, {0, 2999, 16, 1, 1},
            {0, 2999, 16, 2, 2}, {0, -2999, 48, 1, 1}, {0, -2999, 48, 2, 2}, {3000, 3000, 24, 64, 2},
            {3000, 0, 8, 64, 2}, {0, 3000, 8, 64, 2}, {-3000, 0, 24, 64, 2}, {0, -3000, 56, 64, 2},
            {2955, 2955, 8, 64, 1}, {2956, 2955, 8, 64, 2}, {2955, 2956, 8, 64, 2}, {-2954, -2954, 40, 64, 1},
            {-2955, -2954, 40, 64, 2}, {-2954, -2955, 40, 64, 2}, {3000, 3000, 40, 64, 1}, {-3000, -3000, 8, 64, 1},
        };
        int sign = 1;
        for (int[] r : rows) {
            String when = "from " + r[0] + ", " + r[1] + " at " + r[2];
            SectorWalk x = Maps.field(r[0], r[1], Math.floorMod(r[2] - 5 * sign, 64));
            due.is(when, r[4], x.step(r[3], 0, 5 * sign));
            due.is(when + ": the angle turns", r[2], x.walker(2));
            boolean stayed = x.walker(0) == r[0] && x.walker(1) == r[1];
            due.is(when + ": the place stays, both numbers of it", r[4] == 2, stayed);
            due.is(when + ": stopper", -1, x.stopper());
            sign = -sign;
        }
    }

    private static void sectorOfTheLast(Due due) {
        SectorWalk x = Maps.built(new int[][] {{30, -9}, {30, 9}, {10, -9}, {10, 9}, {20, 9}, {20, -9}},
            new int[][] {ROOM, ROOM, ROOM, ROOM}, new int[][] {{0, 1, 3, 2}, {2, 3, 1, 0}, {4, 5, 1, 2}});
        int[] far = {0, 1, 2, 3};
        for (int n = 0; n < 4; n++) {
            x.start(0, 0, 0, 0);
            due.is("behind " + n + " walls", 1, x.step(5 + 10 * n, 0, 0));
            due.is("behind " + n + " walls: sector", far[n], x.walker(3));
            due.is("and back", 1, x.step(-5 - 10 * n, 0, 0));
            due.is("and back: sector", 0, x.walker(3));
        }
    }

    private static void sectorAsItWas(Due due) {
        SectorWalk x = Maps.built(new int[][] {{10, -9}, {10, 9}}, new int[][] {ROOM, ROOM, {0, 1}},
            new int[][] {{0, 1, 0, 1}});
        for (int sector = 0; sector < 3; sector++) {
            x.start(0, 0, 0, sector);
            due.is("none crossed", 1, x.step(9, 0, 0));
            due.is("none crossed: sector", sector, x.walker(3));
            due.is("none crossed beside", 1, x.step(0, -64, 0));
            due.is("none crossed past it", 1, x.step(9, 0, 0));
            due.is("none crossed past it: sector", sector, x.walker(3));
            x.start(3000, 0, 0, sector);
            due.is("over the edge", 2, x.step(1, 0, 0));
            due.is("over the edge: sector", sector, x.walker(3));
        }
    }
}
