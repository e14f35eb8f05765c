/** A walker on a map of rooms, by the numbered promises of DOC.md. */
public final class SectorWalk {
    public static final int NONE = -1;

    private static final int MOST_VERTICES = 64;
    private static final int MOST_SECTORS = 16;
    private static final int MOST_WALLS = 64;
    private static final int MOST_INPUTS = 256;

    private static final int VERTEX_REACH = 2000;
    private static final int WALKER_REACH = 3000;
    private static final int HEIGHT_REACH = 256;
    private static final int AMOUNT_REACH = 64;
    private static final int TURN_REACH = 16;

    private static final int FULL_TURN = 64;
    private static final int QUARTER_TURN = 16;
    private static final int UNIT = 256;
    private static final int[] QUARTER_COSINES = {
        256, 255, 251, 245, 237, 226, 213, 198, 181, 162, 142, 121, 98, 74, 50, 25, 0
    };

    private static final int HIGHEST_RISE = 24;
    private static final int LOWEST_OPENING = 56;

    private static final int NOWHERE = 100000;

    private static final int STOOD = 0;
    private static final int WENT = 1;
    private static final int STOPPED = 2;

    private final Plan draft;
    private final Plan map;
    private final Tape tape;
    private final Stand origin;
    private final Stand now;
    private final Crossings latest;
    private int mapsBuilt;
    // START and the walker come and go together, so one mark tells of both.
    private boolean started;

    public SectorWalk() {
        draft = new Plan();
        map = new Plan();
        tape = new Tape();
        origin = new Stand();
        now = new Stand();
        latest = new Crossings();
        mapsBuilt = 0;
        started = false;
    }

    public int vertex(int x, int y) {
        if (!isWithin(x, VERTEX_REACH) || !isWithin(y, VERTEX_REACH)) {
            return NONE;
        }
        return draft.addVertex(x, y);
    }

    public int sector(int floor, int ceiling) {
        if (!isWithin(floor, HEIGHT_REACH) || !isWithin(ceiling, HEIGHT_REACH) || ceiling <= floor) {
            return NONE;
        }
        return draft.addSector(floor, ceiling);
    }

    public int wall(int from, int to, int front, int back) {
        if (!draft.hasVertex(from) || !draft.hasVertex(to) || from == to) {
            return NONE;
        }
        if (!draft.hasSector(front) || (back != NONE && !draft.hasSector(back))) {
            return NONE;
        }
        return draft.addWall(from, to, front, back);
    }

    public boolean drop() {
        return draft.removeLastWall();
    }

    public void clear() {
        draft.makeEmpty();
    }

    public int build() {
        int wrong = draft.firstWrongWall();
        if (wrong != NONE) {
            return wrong;
        }
        map.becomeCopyOf(draft);
        mapsBuilt++;
        started = false;
        latest.forget();
        return NONE;
    }

    public boolean start(int x, int y, int angle, int sector) {
        // Without a MAP its plan is empty, and so has no sector.
        if (!isPlaceOfWalker(x, y) || angle < 0 || angle >= FULL_TURN || !map.hasSector(sector)) {
            return false;
        }
        origin.x = x;
        origin.y = y;
        origin.angle = angle;
        origin.sector = sector;
        started = true;
        returnToOrigin();
        return true;
    }

    public int input(int ahead, int aside, int turn) {
        if (!isInput(ahead, aside, turn)) {
            return NONE;
        }
        return tape.append(ahead, aside, turn);
    }

    public boolean undo(int n) {
        return tape.removeLast(n);
    }

    public int play(int k) {
        if (!started || k < 0 || k > tape.count) {
            return NONE;
        }
        returnToOrigin();
        int stops = 0;
        for (int i = 0; i < k; i++) {
            if (walk(tape.ahead[i], tape.aside[i], tape.turn[i]) == STOPPED) {
                stops++;
            }
        }
        return stops;
    }

    public int step(int ahead, int aside, int turn) {
        if (!started || !isInput(ahead, aside, turn)) {
            return NONE;
        }
        return walk(ahead, aside, turn);
    }

    public int crossed(int i) {
        if (i < 0 || i >= latest.count) {
            return NONE;
        }
        return latest.order[i];
    }

    public int stopper() {
        return latest.firstStopper;
    }

    public int walker(int what) {
        if (!started) {
            return NOWHERE;
        }
        switch (what) {
            case 0:
                return now.x;
            case 1:
                return now.y;
            case 2:
                return now.angle;
            case 3:
                return now.sector;
            default:
                return NOWHERE;
        }
    }

    public int look(int which) {
        switch (which) {
            case 0:
                return draft.vertexCount;
            case 1:
                return draft.sectorCount;
            case 2:
                return draft.wallCount;
            case 3:
                return mapsBuilt == 0 ? NONE : map.vertexCount;
            case 4:
                return mapsBuilt == 0 ? NONE : map.sectorCount;
            case 5:
                return mapsBuilt == 0 ? NONE : map.wallCount;
            case 6:
                return tape.count;
            case 7:
                return started ? 1 : 0;
            case 8:
                return mapsBuilt;
            default:
                return NONE;
        }
    }

    private void returnToOrigin() {
        now.becomeCopyOf(origin);
        latest.forget();
    }

    private int walk(int ahead, int aside, int turn) {
        now.angle = Math.floorMod(now.angle + turn, FULL_TURN);
        int cosine = cosineOf(now.angle);
        int sine = cosineOf(now.angle - QUARTER_TURN);
        int moveX = Math.floorDiv(cosine * ahead + sine * aside, UNIT);
        int moveY = Math.floorDiv(sine * ahead - cosine * aside, UNIT);
        latest.forget();
        if (moveX == 0 && moveY == 0) {
            return STOOD;
        }
        latest.fill(map, now, moveX, moveY);
        if (latest.firstStopper != NONE || !isPlaceOfWalker(now.x + moveX, now.y + moveY)) {
            return STOPPED;
        }
        now.x += moveX;
        now.y += moveY;
        now.sector = latest.sectorBehind(map, now.sector);
        return WENT;
    }

    private static boolean isWithin(int number, int reach) {
        return number >= -reach && number <= reach;
    }

    private static boolean isPlaceOfWalker(int x, int y) {
        return isWithin(x, WALKER_REACH) && isWithin(y, WALKER_REACH);
    }

    private static boolean isInput(int ahead, int aside, int turn) {
        return isWithin(ahead, AMOUNT_REACH) && isWithin(aside, AMOUNT_REACH) && isWithin(turn, TURN_REACH);
    }

    /** The document's C, of any angle modulo a full turn. */
    private static int cosineOf(int angle) {
        int a = Math.floorMod(angle, FULL_TURN);
        // The second half of the turn mirrors the first one: C(64 - a) is C(a).
        int folded = a <= FULL_TURN / 2 ? a : FULL_TURN - a;
        if (folded <= QUARTER_TURN) {
            return QUARTER_COSINES[folded];
        }
        return -QUARTER_COSINES[FULL_TURN / 2 - folded];
    }

    private static int cross(int px, int py, int qx, int qy) {
        return px * qy - py * qx;
    }

    /** Vertices, sectors and walls: what the DRAFT and the MAP both are. */
    private static final class Plan {
        final int[] vertexX = new int[MOST_VERTICES];
        final int[] vertexY = new int[MOST_VERTICES];
        final int[] floor = new int[MOST_SECTORS];
        final int[] ceiling = new int[MOST_SECTORS];
        final int[] from = new int[MOST_WALLS];
        final int[] to = new int[MOST_WALLS];
        final int[] front = new int[MOST_WALLS];
        final int[] back = new int[MOST_WALLS];
        int vertexCount;
        int sectorCount;
        int wallCount;

        boolean hasVertex(int number) {
            return number >= 0 && number < vertexCount;
        }

        boolean hasSector(int number) {
            return number >= 0 && number < sectorCount;
        }

        int addVertex(int x, int y) {
            if (vertexCount >= MOST_VERTICES || isTaken(x, y)) {
                return NONE;
            }
            vertexX[vertexCount] = x;
            vertexY[vertexCount] = y;
            return vertexCount++;
        }

        private boolean isTaken(int x, int y) {
            for (int v = 0; v < vertexCount; v++) {
                if (vertexX[v] == x && vertexY[v] == y) {
                    return true;
                }
            }
            return false;
        }

        int addSector(int low, int high) {
            if (sectorCount >= MOST_SECTORS) {
                return NONE;
            }
            floor[sectorCount] = low;
            ceiling[sectorCount] = high;
            return sectorCount++;
        }

        int addWall(int a, int b, int frontSector, int backSector) {
            if (wallCount >= MOST_WALLS) {
                return NONE;
            }
            from[wallCount] = a;
            to[wallCount] = b;
            front[wallCount] = frontSector;
            back[wallCount] = backSector;
            return wallCount++;
        }

        boolean removeLastWall() {
            if (wallCount == 0) {
                return false;
            }
            wallCount--;
            return true;
        }

        void makeEmpty() {
            vertexCount = 0;
            sectorCount = 0;
            wallCount = 0;
        }

        void becomeCopyOf(Plan other) {
            System.arraycopy(other.vertexX, 0, vertexX, 0, MOST_VERTICES);
            System.arraycopy(other.vertexY, 0, vertexY, 0, MOST_VERTICES);
            System.arraycopy(other.floor, 0, floor, 0, MOST_SECTORS);
            System.arraycopy(other.ceiling, 0, ceiling, 0, MOST_SECTORS);
            System.arraycopy(other.from, 0, from, 0, MOST_WALLS);
            System.arraycopy(other.to, 0, to, 0, MOST_WALLS);
            System.arraycopy(other.front, 0, front, 0, MOST_WALLS);
            System.arraycopy(other.back, 0, back, 0, MOST_WALLS);
            vertexCount = other.vertexCount;
            sectorCount = other.sectorCount;
            wallCount = other.wallCount;
        }

        int firstWrongWall() {
            for (int later = 1; later < wallCount; later++) {
                for (int earlier = 0; earlier < later; earlier++) {
                    if (clash(earlier, later)) {
                        return later;
                    }
                }
            }
            return NONE;
        }

        /** Whether two walls have a place in common that is no vertex of both. */
        private boolean clash(int v, int w) {
            int a = from[v];
            int b = to[v];
            int c = from[w];
            int d = to[w];
            if (a == c) {
                return leaveAlike(a, b, d);
            }
            if (a == d) {
                return leaveAlike(a, b, c);
            }
            if (b == c) {
                return leaveAlike(b, a, d);
            }
            if (b == d) {
                return leaveAlike(b, a, c);
            }
            return boxesMeet(vertexX, a, b, c, d) && boxesMeet(vertexY, a, b, c, d)
                && straddles(a, b, c, d) && straddles(c, d, a, b);
        }

        /**
         * Whether the walls from a shared vertex to p and to q go the same way, which is the only way
         * for them to have more in common than that vertex.
         */
        private boolean leaveAlike(int shared, int p, int q) {
            int px = vertexX[p] - vertexX[shared];
            int py = vertexY[p] - vertexY[shared];
            int qx = vertexX[q] - vertexX[shared];
            int qy = vertexY[q] - vertexY[shared];
            return cross(px, py, qx, qy) == 0 && px * qx + py * qy > 0;
        }

        private static boolean boxesMeet(int[] at, int a, int b, int c, int d) {
            return Math.max(at[a], at[b]) >= Math.min(at[c], at[d])
                && Math.max(at[c], at[d]) >= Math.min(at[a], at[b]);
        }

        /** Whether c and d are not both on the same side of the line through a and b. */
        private boolean straddles(int a, int b, int c, int d) {
            int sideOfC = side(a, b, c);
            int sideOfD = side(a, b, d);
            return !(sideOfC > 0 && sideOfD > 0) && !(sideOfC < 0 && sideOfD < 0);
        }

        private int side(int a, int b, int c) {
            return cross(vertexX[b] - vertexX[a], vertexY[b] - vertexY[a],
                vertexX[c] - vertexX[a], vertexY[c] - vertexY[a]);
        }

        boolean stops(int number, boolean fromFront) {
            if (back[number] == NONE) {
                return true;
            }
            int near = fromFront ? front[number] : back[number];
            int far = fromFront ? back[number] : front[number];
            int opening = Math.min(ceiling[near], ceiling[far]) - Math.max(floor[near], floor[far]);
            return floor[far] - floor[near] > HIGHEST_RISE || opening < LOWEST_OPENING;
        }
    }

    /** The INPUTS. */
    private static final class Tape {
        final int[] ahead = new int[MOST_INPUTS];
        final int[] aside = new int[MOST_INPUTS];
        final int[] turn = new int[MOST_INPUTS];
        int count;

        int append(int aheadAmount, int asideAmount, int turnAmount) {
            if (count >= MOST_INPUTS) {
                return NONE;
            }
            ahead[count] = aheadAmount;
            aside[count] = asideAmount;
            turn[count] = turnAmount;
            count++;
            return count;
        }

        boolean removeLast(int n) {
            if (n < 0 || n > count) {
                return false;
            }
            count -= n;
            return true;
        }
    }

    /** Where somebody stands: a START, or the walker. */
    private static final class Stand {
        int x;
        int y;
        int angle;
        int sector;

        void becomeCopyOf(Stand other) {
            x = other.x;
            y = other.y;
            angle = other.angle;
            sector = other.sector;
        }
    }

    /** The walls that the latest STEP crossed, in their order. */
    private static final class Crossings {
        final int[] order = new int[MOST_WALLS];
        // P and Q stand by the wall's number, so that sorting moves nothing but the order.
        final int[] p = new int[MOST_WALLS];
        final int[] q = new int[MOST_WALLS];
        int count = 0;
        int firstStopper = NONE;

        void forget() {
            count = 0;
            firstStopper = NONE;
        }

        /** Fills the crossings of one STEP in; those of the STEP before are to be forgotten first. */
        void fill(Plan plan, Stand eye, int moveX, int moveY) {
            for (int number = 0; number < plan.wallCount; number++) {
                if (isCrossed(plan, number, eye, moveX, moveY)) {
                    insert(number);
                }
            }
            for (int i = 0; i < count && firstStopper == NONE; i++) {
                if (plan.stops(order[i], comesFromFront(order[i]))) {
                    firstStopper = order[i];
                }
            }
        }

        private boolean isCrossed(Plan plan, int number, Stand eye, int moveX, int moveY) {
            int ax = plan.vertexX[plan.from[number]] - eye.x;
            int ay = plan.vertexY[plan.from[number]] - eye.y;
            int bx = plan.vertexX[plan.to[number]] - eye.x;
            int by = plan.vertexY[plan.to[number]] - eye.y;
            int a = cross(moveX, moveY, ax, ay);
            int b = cross(moveX, moveY, bx, by);
            if ((a < 0) == (b < 0)) {
                return false;
            }
            p[number] = cross(ax, ay, bx - ax, by - ay);
            q[number] = b - a;
            return isUpToOne(p[number], q[number]);
        }

        /** Whether top / bottom is above 0 and up to 1, without the division; bottom is not 0. */
        private static boolean isUpToOne(int top, int bottom) {
            return bottom > 0 ? top > 0 && top <= bottom : top < 0 && top >= bottom;
        }

        /** The walls come by rising number, so one behind all of its own R keeps the order. */
        private void insert(int number) {
            int at = count;
            while (at > 0 && isFarther(order[at - 1], number)) {
                order[at] = order[at - 1];
                at--;
            }
            order[at] = number;
            count++;
        }

        private boolean isFarther(int v, int w) {
            long left = (long) Math.abs(p[v]) * Math.abs(q[w]);
            long right = (long) Math.abs(p[w]) * Math.abs(q[v]);
            return left > right;
        }

        private boolean comesFromFront(int number) {
            return p[number] < 0;
        }

        int sectorBehind(Plan plan, int before) {
            if (count == 0) {
                return before;
            }
            int last = order[count - 1];
            return comesFromFront(last) ? plan.back[last] : plan.front[last];
        }
    }
}
