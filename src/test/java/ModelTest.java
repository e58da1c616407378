import java.util.ArrayList;
import java.util.List;
import java.util.Random;

/** Runs of drawn calls, each answered by TypeStarts and by the Model; the draws are the same every time. */
public final class ModelTest {
    private static final int MOST_CALLS = 512;

    private final int seed;
    private final Random random;
    private final TypeStarts real = new TypeStarts();
    private final Model model = new Model();
    private final List<String> story = new ArrayList<>();
    private boolean wrong = false;
    private int types = 0;
    private int threads = 0;

    private ModelTest(int seed) {
        this.seed = seed;
        this.random = new Random(seed);
    }

    public static void main(String[] args) {
        int from = args.length > 0 ? Integer.parseInt(args[0]) : 0;
        int to = args.length > 1 ? Integer.parseInt(args[1]) : 4000;
        int wrongRuns = 0;
        int searches = 0;
        int full = 0;
        int stuck = 0;
        int large = 0;
        int most = 0;
        for (int seed = from; seed < to; seed++) {
            ModelTest test = new ModelTest(seed);
            test.play();
            searches += test.searches;
            full += test.full;
            large += test.large;
            most = Math.max(most, test.most);
            stuck += test.stuckSeen;
            if (test.wrong) wrongRuns++;
        }
        System.out.println((to - from) + " runs, " + searches + " searches (" + full + " FULL, " + stuck
            + " with a THREAD that sticks, " + large + " of 100 POINTS or more, the most " + most + "): " + wrongRuns + " runs wrong");
        if (wrongRuns != 0) System.exit(1);
    }

    private int lastFound = 0;
    private int most = 0;
    private int large = 0;
    private int searches = 0;
    private int full = 0;
    private int stuckSeen = 0;

    private void same(String call, int got, int due) {
        story.add(call + " = " + due);
        if (got == due || wrong) return;
        wrong = true;
        System.out.println("seed " + seed + ": " + call + " answered " + got + ", due is " + due);
        System.out.println("  behind: " + story);
    }

    private int below(int n) {
        return random.nextInt(n);
    }

    /** Mostly a number in 0 .. n - 1, now and then one outside. */
    private int near(int n) {
        int odd = below(40);
        if (odd == 0) return -1;
        if (odd == 1) return n;
        if (odd == 2) return below(3) == 0 ? random.nextInt() : below(2) == 0 ? Integer.MIN_VALUE : Integer.MAX_VALUE;
        return n <= 0 ? 0 : below(n);
    }

    private void play() {
        int mostTypes = 1 + below(6);
        int builds = 5 + below(60);
        int mostThreads = 1 + below(3);
        addType();
        for (int i = 0; i < mostThreads; i++) {
            addThread();
        }
        for (int i = 0; i < builds; i++) {
            build(mostTypes, mostThreads);
        }
        if (below(3) == 0) fillUp();
        searchBoth();
        while (story.size() < MOST_CALLS - 30 && below(40) != 0) {
            if (below(30) == 0) build(mostTypes, mostThreads);
            else use();
        }
        lookAround();
    }

    /** FIELDS for all and an ACTION more for each BODY: RUNS that get far, and many ways to go. */
    private void fillUp() {
        for (int t = 0; t < types; t++) {
            same("field(" + t + ")", real.field(t), model.field(t));
            addActionTo(t);
        }
        for (int h = 0; h < threads; h++) {
            addActionTo(10 + h);
            addActionTo(10 + h);
        }
    }

    private void addType() {
        int sort = below(20) == 0 ? near(3) : below(2) == 0 ? 0 : below(4) == 0 ? 1 : 2;
        int parent = sort != 0 && below(20) != 0 || below(3) == 0 ? -1 : near(types);
        int answer = model.type(sort, parent);
        same("type(" + sort + ", " + parent + ")", real.type(sort, parent), answer);
        if (answer >= 0) types = answer + 1;
    }

    private void addThread() {
        int answer = model.thread();
        same("thread()", real.thread(), answer);
        if (answer >= 0) threads = answer + 1;
    }

    private void build(int mostTypes, int mostThreads) {
        int draw = below(100);
        if (draw < 13) {
            if (types < mostTypes || below(20) == 0) addType();
        } else if (draw < 27) {
            int t = near(types);
            int f = below(4) == 0 ? near(types) : below(Math.max(1, t));
            same("face(" + t + ", " + f + ")", real.face(t, f), model.face(t, f));
        } else if (draw < 37) {
            int t = near(types);
            same("field(" + t + ")", real.field(t), model.field(t));
        } else if (draw < 42) {
            if (threads < mostThreads || below(20) == 0) addThread();
        } else if (draw == 42 && below(4) == 0) {
            same("clear()", real.clear(), model.clear());
            types = 0;
            threads = 0;
        } else {
            addAction();
        }
    }

    private void addAction() {
        addActionTo(below(2) == 0 ? near(types) : 10 + near(threads));
    }

    private void addActionTo(int body) {
        int draw = below(20);
        int kind = draw < 6 ? 0 : draw < 11 ? 1 : draw < 17 ? 2 : draw < 18 ? 3 : draw < 19 ? 4 : 5;
        if (below(40) == 0) kind = near(6);
        int a = kind == 4 ? 1 + near(2) : kind == 5 ? (below(20) == 0 ? near(2) : 0) : near(types);
        int v = kind == 1 || kind == 5 ? below(4) == 0 ? near(19) - 9 : below(3) : below(30) == 0 ? near(2) : 0;
        boolean guarded = below(2) == 0;
        same("action(" + body + ", " + kind + ", " + a + ", " + v + ", " + guarded + ")",
            real.action(body, kind, a, v, guarded), model.action(body, kind, a, v, guarded));
    }

    private void use() {
        int draw = below(100);
        if (draw < 40) {
            int t = near(threads);
            same("turn(" + t + ")", real.turn(t), model.turn(t));
        } else if (draw < 43) {
            int s = random.nextInt();
            same("go(" + s + ")", real.go(s), model.go(s));
        } else if (draw < 47) {
            same("begin()", real.begin(), model.begin());
        } else if (draw < 52) {
            searchBoth();
        } else {
            ask();
        }
    }

    private void searchBoth() {
        int due = model.search();
        lastFound = due;
        most = Math.max(most, model.points());
        if (model.points() >= 100) large++;
        same("search()", real.search(), due);
        searches++;
        if (due == -4) full++;
        if (model.stuck() > 0) stuckSeen++;
        for (int i = 0; i < 8 && story.size() < MOST_CALLS; i++) {
            askFound();
        }
    }

    private void askFound() {
        int i = near(1 + below(1 + 2 * Math.max(0, lastFound)));
        int k = near(below(3) == 0 ? 40 : 16);
        int draw = below(8);
        if (draw == 0) same("points()", real.points(), model.points());
        else if (draw == 1) same("stuck()", real.stuck(), model.stuck());
        else if (draw == 2) same("holds()", real.holds(), model.holds());
        else if (draw < 6) same("outcome(" + i + ", " + k + ")", real.outcome(i, k), model.outcome(i, k));
        else same("witness(" + i + ", " + k + ")", real.witness(i, k), model.witness(i, k));
    }

    private void ask() {
        int t = near(types);
        int h = near(threads);
        int i = near(5);
        switch (below(14)) {
            case 0: same("steps()", real.steps(), model.steps()); break;
            case 1: same("state(" + t + ")", real.state(t), model.state(t)); break;
            case 2: same("in(" + t + ")", real.in(t), model.in(t)); break;
            case 3: same("value(" + t + ")", real.value(t), model.value(t)); break;
            case 4: same("end(" + h + ")", real.end(h), model.end(h)); break;
            case 5: same("waits(" + h + ")", real.waits(h), model.waits(h)); break;
            case 6: same("start(" + h + ", " + i + ")", real.start(h, i), model.start(h, i)); break;
            case 7: askLog(near(30), near(3)); break;
            case 8: same("list(" + t + ", " + i + ")", real.list(t, i), model.list(t, i)); break;
            case 9: same("through(" + t + ")", real.through(t), model.through(t)); break;
            case 10: askNeeds(t, near(types)); break;
            default: askFound(); break;
        }
    }

    private void askLog(int i, int what) {
        same("log(" + i + ", " + what + ")", real.log(i, what), model.log(i, what));
    }

    private void askNeeds(int type, int other) {
        same("needs(" + type + ", " + other + ")", real.needs(type, other), model.needs(type, other));
    }

    /** At the end of a run as much of what can be seen as the calls that are left allow. */
    private void lookAround() {
        if (story.size() < MOST_CALLS) same("search()", real.search(), model.search());
        int before = model.log(0, 0) == -1000 ? 1 : 2;
        for (int i = 0; story.size() < MOST_CALLS && i < 20 * before; i++) {
            askLog(i, 1);
            if (story.size() < MOST_CALLS) askLog(i, 2);
        }
        while (story.size() < MOST_CALLS && below(60) != 0) {
            if (below(2) == 0) ask();
            else askFound();
        }
    }
}
