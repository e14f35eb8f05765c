import java.util.Random;

/** Promises 1 to 16: long runs of drawn calls, each answer compared with the model's. */
public final class ModelTest {
    private static final int RUNS = 20000;
    private static final int PROMISED_CALLS = 512;

    private final Due due;
    private final Random random;
    private final SectorWalk real = new SectorWalk();
    private final Model model = new Model();
    private final int reach;
    private final int run;
    private int calls = 0;

    private ModelTest(Due due, int run) {
        this.due = due;
        this.run = run;
        random = new Random(run);
        // Small maps give many shared places and ends on rays, great ones great products.
        reach = new int[] {6, 20, 60, 200, 2000}[random.nextInt(5)];
    }

    public static void main(String[] args) {
        Due due = new Due();
        for (int run = 0; run < RUNS; run++) {
            new ModelTest(due, run).drawCalls();
        }
        due.end();
    }

    private void drawCalls() {
        int sectors = 2 + random.nextInt(16);
        int vertices = 6 + random.nextInt(60);
        int walls = 4 + random.nextInt(40);
        for (int i = 0; i < sectors; i++) {
            sector();
        }
        for (int i = 0; i < vertices; i++) {
            vertex();
        }
        for (int i = 0; i < walls; i++) {
            wall();
            // A draft that is not right would stay so, and no map would ever have many walls.
            if (build() >= 0 && random.nextInt(20) != 0) {
                drop();
            }
        }
        start();
        while (calls < PROMISED_CALLS - 4) {
            any();
            read();
        }
    }

    private void is(String call, long got, long want) {
        due.is("run " + run + ": " + call, want, got);
        calls++;
    }

    private int upTo(int most) {
        return random.nextInt(2 * most + 1) - most;
    }

    private void any() {
        int kind = random.nextInt(1000);
        if (kind < 500) {
            step();
        } else if (kind < 650) {
            input();
        } else if (kind < 750) {
            play();
        } else if (kind < 850) {
            start();
        } else if (kind < 880) {
            undo();
        } else if (kind < 910) {
            wall();
        } else if (kind < 935) {
            drop();
        } else if (kind < 960) {
            vertex();
        } else if (kind < 975) {
            sector();
        } else if (kind < 980) {
            build();
        } else if (kind < 982) {
            clear();
        }
    }

    private void clear() {
        real.clear();
        model.clear();
        calls++;
    }

    /** A few of the reading calls: all of them each time would leave no calls to act with. */
    private void read() {
        int which = random.nextInt(11) - 1;
        is("look(" + which + ")", real.look(which), model.look(which));
        int what = random.nextInt(6) - 1;
        is("walker(" + what + ")", real.walker(what), model.walker(what));
        if (random.nextBoolean()) {
            is("stopper()", real.stopper(), model.stopper());
        } else {
            int i = random.nextInt(random.nextBoolean() ? 2 : 6) - random.nextInt(2);
            is("crossed(" + i + ")", real.crossed(i), model.crossed(i));
        }
    }

    private void vertex() {
        int x = upTo(reach + (reach == 2000 ? 20 : 0));
        int y = upTo(reach);
        is("vertex(" + x + ", " + y + ")", real.vertex(x, y), model.vertex(x, y));
    }

    private void sector() {
        boolean roomy = random.nextInt(3) != 0;
        int floor = roomy ? upTo(20) : upTo(258);
        int ceiling = roomy ? 60 + random.nextInt(60) : upTo(258);
        is("sector(" + floor + ", " + ceiling + ")", real.sector(floor, ceiling), model.sector(floor, ceiling));
    }

    private void wall() {
        int from = random.nextInt(model.look(0) + 2) - 1;
        int to = random.nextInt(model.look(0) + 2) - 1;
        int front = random.nextInt(model.look(1) + 1);
        int back = random.nextInt(6) == 0 ? -1 : random.nextInt(model.look(1) + 3) - 2;
        is("wall(" + from + ", " + to + ", " + front + ", " + back + ")",
            real.wall(from, to, front, back), model.wall(from, to, front, back));
    }

    private void drop() {
        is("drop()", real.drop() ? 1 : 0, model.drop() ? 1 : 0);
    }

    private int build() {
        int got = real.build();
        is("build()", got, model.build());
        return got;
    }

    private void start() {
        int near = Math.min(3002, reach + 40);
        int x = random.nextInt(10) == 0 ? upTo(3002) : upTo(near);
        int y = random.nextInt(10) == 0 ? upTo(3002) : upTo(near);
        int angle = random.nextInt(66) - 1;
        int sector = random.nextInt(Math.max(0, model.look(4)) + 1);
        is("start(" + x + ", " + y + ", " + angle + ", " + sector + ")",
            real.start(x, y, angle, sector) ? 1 : 0, model.start(x, y, angle, sector) ? 1 : 0);
    }

    private void input() {
        int ahead = upTo(66);
        int aside = random.nextBoolean() ? 0 : upTo(66);
        int turn = upTo(17);
        is("input(" + ahead + ", " + aside + ", " + turn + ")",
            real.input(ahead, aside, turn), model.input(ahead, aside, turn));
    }

    private void undo() {
        int n = random.nextInt(6) - 1;
        is("undo(" + n + ")", real.undo(n) ? 1 : 0, model.undo(n) ? 1 : 0);
    }

    private void play() {
        int k = random.nextInt(model.look(6) + 3) - 1;
        is("play(" + k + ")", real.play(k), model.play(k));
    }

    private void step() {
        int most = random.nextInt(8) == 0 ? 66 : Math.min(66, reach + 5);
        int ahead = upTo(most);
        int aside = random.nextBoolean() ? 0 : upTo(most);
        int turn = random.nextInt(3) == 0 ? 16 * upTo(1) : upTo(17);
        is("step(" + ahead + ", " + aside + ", " + turn + ")",
            real.step(ahead, aside, turn), model.step(ahead, aside, turn));
    }
}
