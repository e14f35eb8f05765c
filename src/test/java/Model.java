import java.math.BigInteger;
import java.util.ArrayList;
import java.util.List;

/** The document's words told a second time, with lists and exact fractions, to compare with. */
final class Model {
    record Vertex(int x, int y) { }
    record Sector(int floor, int ceiling) { }
    record Wall(int from, int to, int front, int back) { }
    record Plan(List<Vertex> vertices, List<Sector> sectors, List<Wall> walls) { }
    record Input(int ahead, int aside, int turn) { }
    record Stand(int x, int y, int angle, int sector) { }
    record Meeting(int number, Fraction r, boolean fromFront) { }

    record Fraction(BigInteger top, BigInteger bottom) implements Comparable<Fraction> {
        static Fraction of(long top, long bottom) {
            long sign = bottom < 0 ? -1 : 1;
            return new Fraction(BigInteger.valueOf(sign * top), BigInteger.valueOf(sign * bottom));
        }

        @Override
        public int compareTo(Fraction other) {
            return top.multiply(other.bottom).compareTo(other.top.multiply(bottom));
        }
    }

    private static final Fraction ZERO = Fraction.of(0, 1);
    private static final Fraction ONE = Fraction.of(1, 1);
    private static final int[] K = {256, 255, 251, 245, 237, 226, 213, 198, 181, 162, 142, 121, 98, 74, 50, 25, 0};

    private Plan draft = emptyPlan();
    private Plan map = null;
    private final List<Input> inputs = new ArrayList<>();
    private Stand origin = null;
    private Stand now = null;
    private List<Integer> crossed = List.of();
    private int stopper = -1;
    private int built = 0;

    private static Plan emptyPlan() {
        return new Plan(new ArrayList<>(), new ArrayList<>(), new ArrayList<>());
    }

    private static boolean in(int n, int low, int high) {
        return low <= n && n <= high;
    }

    int vertex(int x, int y) {
        Vertex v = new Vertex(x, y);
        boolean wrong = !in(x, -2000, 2000) || !in(y, -2000, 2000);
        return wrong || draft.vertices.contains(v) ? -1 : added(draft.vertices, v, 64);
    }

    int sector(int floor, int ceiling) {
        boolean wrong = !in(floor, -256, 256) || !in(ceiling, -256, 256) || floor >= ceiling;
        return wrong ? -1 : added(draft.sectors, new Sector(floor, ceiling), 16);
    }

    int wall(int from, int to, int front, int back) {
        int lastVertex = draft.vertices.size() - 1;
        int lastSector = draft.sectors.size() - 1;
        boolean fine = in(from, 0, lastVertex) && in(to, 0, lastVertex) && from != to
            && in(front, 0, lastSector) && in(back, -1, lastSector);
        return fine ? added(draft.walls, new Wall(from, to, front, back), 64) : -1;
    }

    private static <T> int added(List<T> list, T one, int most) {
        if (list.size() == most) {
            return -1;
        }
        list.add(one);
        return list.size() - 1;
    }

    boolean drop() {
        if (draft.walls.isEmpty()) {
            return false;
        }
        draft.walls.remove(draft.walls.size() - 1);
        return true;
    }

    void clear() {
        draft = emptyPlan();
    }

    int build() {
        for (int j = 0; j < draft.walls.size(); j++) {
            for (int i = 0; i < j; i++) {
                if (meetWrongly(draft.walls.get(i), draft.walls.get(j))) {
                    return j;
                }
            }
        }
        map = new Plan(List.copyOf(draft.vertices), List.copyOf(draft.sectors), List.copyOf(draft.walls));
        built++;
        origin = null;
        now = null;
        forget();
        return -1;
    }

    private void forget() {
        crossed = List.of();
        stopper = -1;
    }

    private static long cross(long px, long py, long qx, long qy) {
        return px * qy - py * qx;
    }

    /** Solves A + t (B - A) = C + u (D - C). */
    private boolean meetWrongly(Wall v, Wall w) {
        Vertex a = draft.vertices.get(v.from);
        Vertex b = draft.vertices.get(v.to);
        Vertex c = draft.vertices.get(w.from);
        Vertex d = draft.vertices.get(w.to);
        long rx = b.x - a.x;
        long ry = b.y - a.y;
        long sx = d.x - c.x;
        long sy = d.y - c.y;
        long bottom = cross(rx, ry, sx, sy);
        if (bottom != 0) {
            Fraction t = Fraction.of(cross(c.x - a.x, c.y - a.y, sx, sy), bottom);
            Fraction u = Fraction.of(cross(c.x - a.x, c.y - a.y, rx, ry), bottom);
            return isWithinWall(t) && isWithinWall(u) && !(isEnd(t) && isEnd(u));
        }
        if (cross(c.x - a.x, c.y - a.y, rx, ry) != 0) {
            return false;
        }
        long atC = (c.x - a.x) * rx + (c.y - a.y) * ry;
        long atD = (d.x - a.x) * rx + (d.y - a.y) * ry;
        long low = Math.max(0, Math.min(atC, atD));
        long high = Math.min(rx * rx + ry * ry, Math.max(atC, atD));
        return low < high;
    }

    private static boolean isWithinWall(Fraction t) {
        return t.compareTo(ZERO) >= 0 && t.compareTo(ONE) <= 0;
    }

    private static boolean isEnd(Fraction t) {
        return t.compareTo(ZERO) == 0 || t.compareTo(ONE) == 0;
    }

    boolean start(int x, int y, int angle, int sector) {
        boolean fine = map != null && in(x, -3000, 3000) && in(y, -3000, 3000) && in(angle, 0, 63)
            && in(sector, 0, map.sectors.size() - 1);
        if (fine) {
            origin = new Stand(x, y, angle, sector);
            now = origin;
            forget();
        }
        return fine;
    }

    int input(int ahead, int aside, int turn) {
        if (!isInput(ahead, aside, turn) || inputs.size() == 256) {
            return -1;
        }
        inputs.add(new Input(ahead, aside, turn));
        return inputs.size();
    }

    private static boolean isInput(int ahead, int aside, int turn) {
        return in(ahead, -64, 64) && in(aside, -64, 64) && in(turn, -16, 16);
    }

    boolean undo(int n) {
        if (!in(n, 0, inputs.size())) {
            return false;
        }
        inputs.subList(inputs.size() - n, inputs.size()).clear();
        return true;
    }

    int play(int k) {
        if (origin == null || !in(k, 0, inputs.size())) {
            return -1;
        }
        now = origin;
        forget();
        int stops = 0;
        for (Input i : inputs.subList(0, k)) {
            stops += go(i) == 2 ? 1 : 0;
        }
        return stops;
    }

    int step(int ahead, int aside, int turn) {
        return origin == null || !isInput(ahead, aside, turn) ? -1 : go(new Input(ahead, aside, turn));
    }

    private static int c(int a) {
        if (a <= 16) {
            return K[a];
        }
        if (a <= 32) {
            return -K[32 - a];
        }
        return a <= 48 ? -K[a - 32] : K[64 - a];
    }

    private int go(Input input) {
        int angle = (now.angle + input.turn + 64) % 64;
        now = new Stand(now.x, now.y, angle, now.sector);
        int s = c((angle + 48) % 64);
        int mx = (int) Math.floor((c(angle) * input.ahead + s * input.aside) / 256.0);
        int my = (int) Math.floor((s * input.ahead - c(angle) * input.aside) / 256.0);
        forget();
        if (mx == 0 && my == 0) {
            return 0;
        }
        List<Meeting> met = meetings(mx, my);
        crossed = met.stream().map(Meeting::number).toList();
        stopper = met.stream().filter(this::stops).map(Meeting::number).findFirst().orElse(-1);
        if (stopper != -1 || !in(now.x + mx, -3000, 3000) || !in(now.y + my, -3000, 3000)) {
            return 2;
        }
        int sector = met.isEmpty() ? now.sector : far(met.get(met.size() - 1));
        now = new Stand(now.x + mx, now.y + my, angle, sector);
        return 1;
    }

    private List<Meeting> meetings(int mx, int my) {
        List<Meeting> met = new ArrayList<>();
        for (int n = 0; n < map.walls.size(); n++) {
            Vertex a = map.vertices.get(map.walls.get(n).from);
            Vertex b = map.vertices.get(map.walls.get(n).to);
            long sideA = cross(mx, my, a.x - now.x, a.y - now.y);
            long sideB = cross(mx, my, b.x - now.x, b.y - now.y);
            if (sideA < 0 ^ sideB < 0) {
                long p = cross(a.x - now.x, a.y - now.y, b.x - a.x, b.y - a.y);
                Fraction r = Fraction.of(p, sideB - sideA);
                if (r.compareTo(ZERO) > 0 && r.compareTo(ONE) <= 0) {
                    met.add(new Meeting(n, r, p < 0));
                }
            }
        }
        met.sort((v, w) -> {
            int byR = v.r.compareTo(w.r);
            return byR != 0 ? byR : Integer.compare(v.number, w.number);
        });
        return met;
    }

    private int near(Meeting m) {
        Wall w = map.walls.get(m.number);
        return m.fromFront ? w.front : w.back;
    }

    private int far(Meeting m) {
        Wall w = map.walls.get(m.number);
        return m.fromFront ? w.back : w.front;
    }

    private boolean stops(Meeting m) {
        if (map.walls.get(m.number).back == -1) {
            return true;
        }
        Sector near = map.sectors.get(near(m));
        Sector far = map.sectors.get(far(m));
        return far.floor > near.floor + 24
            || Math.min(near.ceiling, far.ceiling) < Math.max(near.floor, far.floor) + 56;
    }

    int crossed(int i) {
        return in(i, 0, crossed.size() - 1) ? crossed.get(i) : -1;
    }

    int stopper() {
        return stopper;
    }

    int walker(int what) {
        if (now == null || !in(what, 0, 3)) {
            return 100000;
        }
        return new int[] {now.x, now.y, now.angle, now.sector}[what];
    }

    int look(int which) {
        if (!in(which, 0, 8) || (in(which, 3, 5) && map == null)) {
            return -1;
        }
        Plan told = map == null ? emptyPlan() : map;
        return new int[] {
            draft.vertices.size(), draft.sectors.size(), draft.walls.size(),
            told.vertices.size(), told.sectors.size(), told.walls.size(),
            inputs.size(), now == null ? 0 : 1, built,
        }[which];
    }
}
