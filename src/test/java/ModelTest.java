import java.util.Arrays;
import java.util.Random;

/** Long mixed runs of calls, right and wrong ones, answered alike by the program and by the model. */
public final class ModelTest {
    private static final int MOST_CALLS = 512;
    private static final int[] TRAIN_SIZES = {1, 2, 2, 3, 3, 4, 5, 6, 8, 12, 24};

    private final Checks checks;
    private final Random random;
    private final ConsistBus bus = new ConsistBus();
    private final Model model = new Model();
    private final int[] ids;
    private int calls = 0;

    private ModelTest(Checks checks, int seed) {
        this.checks = checks;
        this.random = new Random(seed);
        int size = TRAIN_SIZES[random.nextInt(TRAIN_SIZES.length)];
        ids = random.ints(1, 256).distinct().limit(size).toArray();
    }

    public static void main(String[] args) {
        Checks checks = new Checks();
        for (int seed = 0; seed < 600; seed++) {
            checks.at("model, seed " + seed);
            new ModelTest(checks, seed).play();
        }
        checks.end();
    }

    private void play() {
        for (int id : ids) {
            call("add", id, random.nextInt(65536));
        }
        while (calls < MOST_CALLS - 4) {
            switch (random.nextInt(12)) {
                case 0 -> change();
                case 1 -> coupleSome();
                case 2 -> shuttle();
                case 3 -> wrongCall();
                case 4, 5 -> call("rounds", random.nextInt(4), losses());
                case 6 -> call("rounds", random.nextInt(30), random.nextInt(3) == 0 ? losses() : 0);
                default -> ask();
            }
        }
    }

    private int id() {
        return ids[random.nextInt(ids.length)];
    }

    private int losses() {
        return random.nextInt() & random.nextInt() & random.nextInt();
    }

    private void change() {
        switch (random.nextInt(5)) {
            case 0 -> call("reset", id());
            case 1 -> call("uncouple", id(), random.nextInt(2));
            case 2 -> call("add", 1 + random.nextInt(255), random.nextInt(65536));
            default -> call("put", id(), random.nextInt(4), random.nextInt(256));
        }
    }

    private void coupleSome() {
        for (int k = random.nextInt(6); k >= 0 && calls < MOST_CALLS; k--) {
            call("couple", id(), random.nextInt(2), id(), random.nextInt(2));
        }
    }

    /** Two cars that are coupled now here, now there, so that stale views grow. */
    private void shuttle() {
        int a = id();
        int b = id();
        if (random.nextInt(8) != 0 || MOST_CALLS - calls < 160) {
            return;
        }
        for (int k = 0; k < 2; k++) {
            call("uncouple", a, k);
            call("uncouple", b, k);
        }
        for (int k = random.nextInt(45); k >= 0; k--) {
            call("couple", a, k & 1, b, 1 - (k & 1));
            call("rounds", 1, 0);
            call("uncouple", a, k & 1);
        }
    }

    private void ask() {
        switch (random.nextInt(12)) {
            case 0 -> call("coupling", id(), random.nextInt(2));
            case 1 -> call("directory", id(), random.nextInt(ids.length + 2));
            case 2, 3 -> call("view", id(), random.nextInt(2), random.nextInt(26) - 1);
            case 4, 5 -> call("get", id(), random.nextInt(ids.length + 2), random.nextInt(5));
            case 6 -> call("side", id(), random.nextInt(ids.length + 2), random.nextInt(16));
            case 7 -> call("order", id(), random.nextInt(ids.length + 2));
            case 8 -> call("settled");
            case 9 -> call("count", random.nextInt(5));
            default -> call("about", id(), random.nextInt(12));
        }
    }

    private void wrongCall() {
        int[] odd = {-1, 0, 1, 2, 4, 5, 12, 16, 25, 201, 255, 256, 65536, Integer.MIN_VALUE, Integer.MAX_VALUE};
        int[] any = new int[4];
        for (int k = 0; k < 4; k++) {
            any[k] = random.nextBoolean() ? id() : odd[random.nextInt(odd.length)];
        }
        switch (random.nextInt(12)) {
            case 0 -> call("add", any[0], any[1]);
            case 1 -> call("couple", any[0], random.nextInt(4) - 1, any[2], random.nextInt(4) - 1);
            case 2 -> call("uncouple", any[0], random.nextInt(4) - 1);
            case 3 -> call("rounds", any[0] > 20 && any[0] <= 200 ? -any[0] : any[0], any[1]);
            case 4 -> call("coupling", any[0], random.nextInt(4) - 1);
            case 5 -> call("about", any[0], any[1]);
            case 6 -> call("directory", any[0], any[1]);
            case 7 -> call("view", any[0], random.nextInt(4) - 1, any[2]);
            case 8 -> call("put", any[0], any[1], any[2]);
            case 9 -> call("get", any[0], any[1], any[2]);
            case 10 -> call("side", any[0], any[1], any[2]);
            default -> call("order", any[0], any[1]);
        }
    }

    private void call(String name, int... a) {
        if (calls >= MOST_CALLS) {
            return;
        }
        calls++;
        String text = name + Arrays.toString(a);
        Object got = new Call(name, a).on(bus);
        Object want = Checks.answer(() -> askModel(name, a));
        checks.due("call " + calls + ", " + text, got, want);
    }

    private int askModel(String name, int[] a) {
        return switch (name) {
            case "add" -> model.add(a[0], a[1]);
            case "couple" -> model.couple(a[0], a[1], a[2], a[3]);
            case "uncouple" -> model.uncouple(a[0], a[1]);
            case "reset" -> model.reset(a[0]);
            case "rounds" -> model.rounds(a[0], a[1]);
            case "coupling" -> model.coupling(a[0], a[1]);
            case "about" -> model.about(a[0], a[1]);
            case "directory" -> model.directory(a[0], a[1]);
            case "view" -> model.view(a[0], a[1], a[2]);
            case "put" -> model.put(a[0], a[1], a[2]);
            case "get" -> model.get(a[0], a[1], a[2]);
            case "side" -> model.side(a[0], a[1], a[2]);
            case "order" -> model.order(a[0], a[1]);
            case "settled" -> model.settled();
            default -> model.count(a[0]);
        };
    }
}
