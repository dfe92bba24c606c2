import java.util.function.Consumer;

/** Each promise of the document by runs made by hand: ordinary inputs, the edges it names, and wrong inputs. */
public final class PromisesTest {
    private static final int NONE = -1;
    private static final int[] NO_IDS = {Integer.MIN_VALUE, -1, 0, 4, 254, 255, 256, Integer.MAX_VALUE};
    private static final int[] NO_ENDS = {Integer.MIN_VALUE, -1, 2, Integer.MAX_VALUE};

    private final Checks checks = new Checks();

    public static void main(String[] args) {
        PromisesTest test = new PromisesTest();
        test.newObject();
        test.add();
        test.addMost();
        test.couple();
        test.coupleRings();
        test.coupleWrong();
        test.uncouple();
        test.uncoupledEndsFallSilent();
        test.reset();
        test.resetOfOne();
        test.rounds();
        test.roundsWithLosses();
        test.roundsWrong();
        test.coupling();
        test.aboutOneCar();
        test.aboutTwoCars();
        test.aboutSilence();
        test.aboutCrosses();
        test.aboutCrossWithoutDirectory();
        test.aboutWrong();
        test.directory();
        test.view();
        test.viewIsCutAt24();
        test.put();
        test.get();
        test.getAges();
        test.getFromBothEnds();
        test.side();
        test.sideWrong();
        test.order();
        test.settled();
        test.settledNeedsTrueEnds();
        test.longTrain();
        test.count();
        test.wrongCallsChangeNothing();
        test.checks.end();
    }

    private void about(ConsistBus bus, int car, int... facts) {
        for (int what = 0; what < facts.length; what++) {
            checks.due("about(" + car + ", " + what + ")", bus.about(car, what), facts[what]);
        }
    }

    private void directoryIs(ConsistBus bus, int car, int... ids) {
        for (int k = 0; k < ids.length; k++) {
            checks.due("directory(" + car + ", " + (k + 1) + ")", bus.directory(car, k + 1), ids[k]);
        }
        checks.due("directory(" + car + ") behind its last", bus.directory(car, ids.length + 1), NONE);
    }

    private void viewIs(ConsistBus bus, int car, int end, int... items) {
        for (int k = 0; k < items.length; k++) {
            checks.due("view(" + car + ", " + end + ", " + k + ")", bus.view(car, end, k), items[k]);
        }
        checks.due("view(" + car + ", " + end + ") behind its last", bus.view(car, end, items.length), NONE);
    }

    private void noSuchCar(String name, Consumer<Integer> call) {
        for (int id : NO_IDS) {
            checks.fails(name + " of car " + id, () -> run(call, id), Checks.NO_ELEMENT);
        }
    }

    private void noSuchEnd(String name, Consumer<Integer> call) {
        for (int end : NO_ENDS) {
            checks.fails(name + " of end " + end, () -> run(call, end), Checks.NO_ELEMENT);
        }
    }

    private static int run(Consumer<Integer> call, int value) {
        call.accept(value);
        return 0;
    }

    /** Cars 5 and 3, 5's end 1 to 3's end 0: the directory is 3, 5, and both are flipped. */
    private static ConsistBus pair() {
        ConsistBus bus = new ConsistBus();
        bus.add(5, 0b1000_0000_0000_0010);
        bus.add(3, 65535);
        bus.couple(5, 1, 3, 0);
        return bus;
    }

    /** Cars 10, 20, 30, each knowing itself alone, and then coupled in this order, none turned. */
    private static ConsistBus three() {
        ConsistBus bus = new ConsistBus();
        bus.add(10, 65535);
        bus.add(20, 65535);
        bus.add(30, 65535);
        bus.rounds(4, 0);
        bus.couple(10, 1, 20, 0);
        bus.couple(20, 1, 30, 0);
        return bus;
    }

    private void newObject() {
        checks.at("promise 1");
        ConsistBus bus = new ConsistBus();
        for (int what = 0; what <= 4; what++) {
            checks.due("count(" + what + ")", bus.count(what), 0);
        }
        checks.due("settled()", bus.settled(), 0);
        checks.due("rounds(200, 0)", bus.rounds(200, 0), 0);
        noSuchCar("about", id -> bus.about(id, 0));
        ConsistBus other = new ConsistBus();
        other.add(4, 0);
        checks.due("objects have cars of their own", bus.count(0), 0);
    }

    private void add() {
        checks.at("promise 2");
        ConsistBus bus = new ConsistBus();
        checks.due("add(1, 0)", bus.add(1, 0), 1);
        checks.due("add(255, 65535)", bus.add(255, 65535), 2);
        for (int id : new int[] {Integer.MIN_VALUE, -1, 0, 256, Integer.MAX_VALUE}) {
            checks.fails("add(" + id + ", 0)", () -> bus.add(id, 0), Checks.ARGUMENT);
        }
        for (int mask : new int[] {Integer.MIN_VALUE, -1, 65536, Integer.MAX_VALUE}) {
            checks.fails("add(2, " + mask + ")", () -> bus.add(2, mask), Checks.ARGUMENT);
            checks.fails("add(1, " + mask + ")", () -> bus.add(1, mask), Checks.ARGUMENT);
        }
        checks.fails("add(1, 1)", () -> bus.add(1, 1), Checks.STATE);
        checks.due("count(0)", bus.count(0), 2);
        checks.due("coupling(255, 0)", bus.coupling(255, 0), NONE);
        checks.due("coupling(255, 1)", bus.coupling(255, 1), NONE);
        about(bus, 255, 0, 0, 0, 0, 0, 0, 0, 0, 0, 0, 0, 0);
        bus.rounds(9, 0);
        bus.add(2, 7);
        about(bus, 2, 0, 0, 0, 0, 0, 0, 0, 0, 0, 0, 0, 0);
    }

    private void addMost() {
        checks.at("promise 2, most cars");
        ConsistBus bus = new ConsistBus();
        for (int k = 1; k <= 24; k++) {
            checks.due("add, car " + k, bus.add(10 * k, 0), k);
        }
        checks.fails("add, car 25", () -> bus.add(1, 0), Checks.STATE);
        checks.fails("add, car 25 with no id", () -> bus.add(0, 0), Checks.ARGUMENT);
        checks.fails("add, car 25 with no mask", () -> bus.add(1, -1), Checks.ARGUMENT);
        checks.due("count(0)", bus.count(0), 24);
    }

    private void couple() {
        checks.at("promise 3");
        ConsistBus bus = new ConsistBus();
        for (int id = 1; id <= 24; id++) {
            bus.add(id, 0);
        }
        for (int id = 1; id < 24; id++) {
            checks.due("couple " + id, bus.couple(id, 1, id + 1, 0), id - 1);
        }
        bus.uncouple(10, 1);
        bus.uncouple(3, 0);
        bus.uncouple(7, 1);
        checks.due("the least free number", bus.couple(10, 1, 11, 0), 1);
        checks.due("the next one", bus.couple(8, 0, 7, 1), 6);
        checks.due("the last one", bus.couple(2, 1, 3, 0), 9);
        checks.due("count(1)", bus.count(1), 23);
    }

    private void coupleRings() {
        checks.at("promise 3, rings");
        ConsistBus bus = new ConsistBus();
        for (int id = 1; id <= 4; id++) {
            bus.add(id, 0);
        }
        checks.fails("a car to itself", () -> bus.couple(1, 0, 1, 1), Checks.STATE);
        checks.fails("an end to itself", () -> bus.couple(1, 0, 1, 0), Checks.STATE);
        bus.couple(1, 0, 2, 0);
        bus.couple(3, 1, 2, 1);
        checks.fails("a ring of three", () -> bus.couple(1, 1, 3, 0), Checks.STATE);
        checks.fails("a ring of three, other side", () -> bus.couple(3, 0, 1, 1), Checks.STATE);
        checks.fails("a coupled end", () -> bus.couple(2, 1, 4, 0), Checks.STATE);
        checks.fails("a coupled end, other side", () -> bus.couple(4, 0, 1, 0), Checks.STATE);
        checks.due("a fourth car", bus.couple(3, 0, 4, 0), 2);
        checks.fails("a ring of four", () -> bus.couple(4, 1, 1, 1), Checks.STATE);
        bus.uncouple(2, 1);
        checks.due("the same when parted", bus.couple(4, 1, 1, 1), 1);
    }

    private void coupleWrong() {
        checks.at("promise 3, wrong inputs");
        ConsistBus bus = pair();
        noSuchCar("couple", id -> bus.couple(id, 0, 3, 1));
        noSuchCar("couple to", id -> bus.couple(3, 1, id, 0));
        noSuchCar("couple of coupled end", id -> bus.couple(3, 0, id, 0));
        noSuchEnd("couple", end -> bus.couple(3, end, 5, 0));
        noSuchEnd("couple to", end -> bus.couple(5, 1, 3, end));
        checks.due("count(1)", bus.count(1), 1);
    }

    private void uncouple() {
        checks.at("promise 4");
        ConsistBus bus = three();
        checks.due("uncouple(30, 0)", bus.uncouple(30, 0), 1);
        checks.due("coupling(20, 1)", bus.coupling(20, 1), NONE);
        checks.due("coupling(30, 0)", bus.coupling(30, 0), NONE);
        checks.due("coupling(20, 0)", bus.coupling(20, 0), 0);
        checks.fails("uncouple(30, 0) again", () -> bus.uncouple(30, 0), Checks.STATE);
        checks.fails("uncouple(20, 1)", () -> bus.uncouple(20, 1), Checks.STATE);
        checks.due("uncouple(10, 1)", bus.uncouple(10, 1), 0);
        checks.due("count(1)", bus.count(1), 0);
        checks.due("rounds(1, 0)", bus.rounds(1, 0), 0);
        noSuchCar("uncouple", id -> bus.uncouple(id, 0));
        noSuchEnd("uncouple", end -> bus.uncouple(10, end));
    }

    private void uncoupledEndsFallSilent() {
        checks.at("promise 4, what cars know stays");
        ConsistBus bus = pair();
        bus.put(5, 0, 99);
        bus.rounds(6, 0);
        bus.uncouple(3, 0);
        about(bus, 3, 2, 1, 1, 2, 0, 1, 0, 4, 1, 0, 1, 1);
        bus.rounds(3, 0);
        about(bus, 3, 2, 1, 1, 2, 0, 1, 3, 4, 1, 0, 1, 1);
        checks.due("get(3, 2, 0)", bus.get(3, 2, 0), 99);
        checks.due("get(3, 2, 4)", bus.get(3, 2, 4), 4);
        bus.rounds(1, 0);
        about(bus, 3, 2, 1, 0, 1, 0, 2, 4, 4, 0, 0, 1, 1);
        checks.due("settled()", bus.settled(), 2);
    }

    private void reset() {
        checks.at("promise 5");
        ConsistBus bus = pair();
        bus.put(3, 1, 8);
        bus.put(5, 1, 9);
        bus.rounds(6, 0);
        bus.rounds(4, 1);
        bus.rounds(2, 0);
        about(bus, 3, 2, 1, 1, 2, 1, 3, 0, 4, 1, 0, 1, 1);
        bus.reset(3);
        about(bus, 3, 0, 0, 0, 0, 0, 0, 0, 0, 0, 0, 0, 0);
        about(bus, 5, 2, 2, 1, 2, 1, 3, 4, 0, 0, 1, 1, 1);
        checks.due("coupling(3, 0)", bus.coupling(3, 0), 0);
        checks.due("get(3, 1, 1)", bus.get(3, 1, 1), NONE);
        checks.due("get(3, 2, 4)", bus.get(3, 2, 4), NONE);
        viewIs(bus, 3, 0);
        bus.rounds(4, 0);
        about(bus, 3, 1, 1, 1, 2, 1, 1, 0, 4, 1, 0, 1, 1);
        checks.due("get(3, 1, 1)", bus.get(3, 1, 1), 8);
        checks.due("get(3, 2, 1)", bus.get(3, 2, 1), NONE);
        bus.rounds(1, 0);
        about(bus, 3, 1, 1, 1, 2, 1, 1, 0, 4, 1, 0, 1, 1);
        bus.rounds(1, 0);
        about(bus, 3, 2, 1, 1, 2, 1, 1, 0, 4, 1, 0, 1, 1);
        checks.due("get(3, 2, 1)", bus.get(3, 2, 1), 9);
        checks.due("side(3, 1, 3)", bus.side(3, 1, 3), 2);
        noSuchCar("reset", id -> bus.reset(id));
    }

    private void resetOfOne() {
        checks.at("promise 5, the middle one");
        ConsistBus bus = three();
        bus.rounds(10, 0);
        bus.reset(20);
        checks.due("settled()", bus.settled(), 2);
        bus.rounds(1, 0);
        about(bus, 20, 2, 2, 0, 3, 0, 1, 0, 0, 1, 1, 1, 1);
        checks.due("get(20, 1, 4)", bus.get(20, 1, 4), 1);
        about(bus, 10, 0, 0, 0, 0);
    }

    private void rounds() {
        checks.at("promise 6");
        ConsistBus bus = three();
        checks.due("rounds(0, 0)", bus.rounds(0, 0), 0);
        checks.due("rounds(0, -1)", bus.rounds(0, -1), 0);
        about(bus, 10, 2, 1, 0, 1, 0, 1, 4, 4, 0, 0, 1, 1);
        checks.due("rounds(1, 0)", bus.rounds(1, 0), 4);
        checks.due("rounds(200, 0)", bus.rounds(200, 0), 800);
        checks.due("count(2)", bus.count(2), 205);
        checks.due("count(4)", bus.count(4), 804);
    }

    private void roundsWithLosses() {
        checks.at("promise 6, losses");
        ConsistBus bus = three();
        checks.due("rounds(3, 1)", bus.rounds(3, 1), 6);
        checks.due("rounds(3, 2)", bus.rounds(3, 2), 6);
        checks.due("rounds(3, 3)", bus.rounds(3, 3), 0);
        checks.due("rounds(3, -1)", bus.rounds(3, -1), 0);
        checks.due("rounds(3, -4)", bus.rounds(3, -4), 12);
        checks.due("rounds(3, MIN)", bus.rounds(3, Integer.MIN_VALUE), 12);
        bus.uncouple(10, 1);
        checks.due("a number that is free does not matter", bus.rounds(3, 1), 6);
        checks.due("the one that is left does", bus.rounds(3, 2), 0);
        checks.due("count(4)", bus.count(4), 42);
    }

    private void roundsWrong() {
        checks.at("promise 6, wrong inputs");
        ConsistBus bus = pair();
        for (int n : new int[] {Integer.MIN_VALUE, -1, 201, Integer.MAX_VALUE}) {
            checks.fails("rounds(" + n + ", 0)", () -> bus.rounds(n, 0), Checks.ARGUMENT);
        }
        checks.due("count(2)", bus.count(2), 0);
        about(bus, 3, 0, 0, 0, 0, 0, 0, 0, 0, 0, 0, 0, 0);
    }

    private void coupling() {
        checks.at("promise 7");
        ConsistBus bus = three();
        checks.due("coupling(10, 0)", bus.coupling(10, 0), NONE);
        checks.due("coupling(10, 1)", bus.coupling(10, 1), 0);
        checks.due("coupling(20, 0)", bus.coupling(20, 0), 0);
        checks.due("coupling(20, 1)", bus.coupling(20, 1), 1);
        checks.due("coupling(30, 0)", bus.coupling(30, 0), 1);
        checks.due("coupling(30, 1)", bus.coupling(30, 1), NONE);
        noSuchCar("coupling", id -> bus.coupling(id, 0));
        noSuchEnd("coupling", end -> bus.coupling(10, end));
    }

    private void aboutOneCar() {
        checks.at("promise 8, one car");
        ConsistBus bus = new ConsistBus();
        bus.add(7, 0);
        bus.rounds(3, 0);
        about(bus, 7, 0, 0, 0, 0, 0, 0, 3, 3, 0, 0, 0, 0);
        bus.rounds(1, 0);
        about(bus, 7, 2, 1, 0, 1, 0, 1, 4, 4, 0, 0, 1, 1);
        bus.rounds(200, 0);
        about(bus, 7, 2, 1, 0, 1, 0, 1, 4, 4, 0, 0, 1, 1);
    }

    private void aboutTwoCars() {
        checks.at("promise 8, two cars");
        ConsistBus bus = pair();
        bus.rounds(1, 0);
        about(bus, 5, 0, 0, 0, 0, 0, 0, 1, 0, 0, 1, 0, 0);
        bus.rounds(3, 0);
        about(bus, 5, 0, 0, 0, 0, 0, 0, 4, 0, 0, 1, 1, 0);
        bus.rounds(1, 0);
        about(bus, 5, 1, 2, 1, 2, 0, 1, 4, 0, 0, 1, 1, 1);
        about(bus, 3, 1, 1, 1, 2, 0, 1, 0, 4, 1, 0, 1, 1);
        bus.rounds(1, 0);
        about(bus, 5, 2, 2, 1, 2, 0, 1, 4, 0, 0, 1, 1, 1);
        about(bus, 3, 2, 1, 1, 2, 0, 1, 0, 4, 1, 0, 1, 1);
    }

    private void aboutSilence() {
        checks.at("promise 8, lost frames");
        ConsistBus bus = pair();
        bus.rounds(6, 0);
        bus.rounds(3, 1);
        about(bus, 5, 2, 2, 1, 2, 0, 1, 4, 3, 0, 1, 1, 1);
        bus.rounds(1, 0);
        about(bus, 5, 2, 2, 1, 2, 0, 1, 4, 0, 0, 1, 1, 1);
        bus.rounds(4, 1);
        about(bus, 5, 2, 1, 0, 1, 0, 2, 4, 4, 0, 0, 1, 1);
        bus.rounds(1, 0);
        about(bus, 5, 1, 2, 1, 2, 1, 3, 4, 0, 0, 1, 1, 1);
        bus.rounds(1, 0);
        about(bus, 5, 2, 2, 1, 2, 1, 3, 4, 0, 0, 1, 1, 1);
    }

    private void aboutCrosses() {
        checks.at("promise 8, crosses");
        ConsistBus bus = three();
        bus.rounds(1, 0);
        about(bus, 10, 1, 1, 0, 2, 1, 2);
        about(bus, 20, 1, 2, 0, 3, 2, 2);
        about(bus, 30, 1, 2, 0, 2, 1, 2);
        bus.rounds(1, 0);
        about(bus, 10, 2, 1, 0, 3, 1, 3);
        about(bus, 20, 1, 2, 0, 3, 4, 2);
        about(bus, 30, 2, 3, 0, 3, 1, 3);
        bus.rounds(1, 0);
        about(bus, 10, 2, 1, 0, 3, 1, 3);
        about(bus, 20, 2, 2, 0, 3, 4, 2);
    }

    private void aboutCrossWithoutDirectory() {
        checks.at("promise 8, a cross of a car without a directory");
        ConsistBus bus = new ConsistBus();
        bus.add(7, 0);
        bus.rounds(4, 0);
        bus.add(8, 0);
        bus.couple(7, 1, 8, 0);
        bus.rounds(1, 0);
        about(bus, 8, 0, 0, 0, 0, 1, 0, 0, 1, 1, 0, 1, 0);
        about(bus, 7, 0, 0, 0, 0, 0, 2, 4, 0, 0, 1, 1, 0);
        bus.rounds(1, 0);
        about(bus, 8, 0, 0, 0, 0, 1, 0, 0, 2, 1, 0, 1, 0);
        about(bus, 7, 0, 0, 0, 0, 0, 2, 4, 0, 0, 1, 1, 0);
    }

    private void aboutWrong() {
        checks.at("promise 8, wrong inputs");
        ConsistBus bus = pair();
        for (int what : new int[] {Integer.MIN_VALUE, -1, 12, Integer.MAX_VALUE}) {
            checks.fails("about(5, " + what + ")", () -> bus.about(5, what), Checks.ARGUMENT);
            checks.fails("about(4, " + what + ")", () -> bus.about(4, what), Checks.NO_ELEMENT);
        }
        noSuchCar("about", id -> bus.about(id, 0));
    }

    private void directory() {
        checks.at("promise 9");
        ConsistBus bus = pair();
        directoryIs(bus, 5);
        bus.rounds(5, 0);
        directoryIs(bus, 5, 3, 5);
        directoryIs(bus, 3, 3, 5);
        for (int k : new int[] {Integer.MIN_VALUE, -1, 0, 24, 25, Integer.MAX_VALUE}) {
            checks.due("directory(5, " + k + ")", bus.directory(5, k), NONE);
        }
        noSuchCar("directory", id -> bus.directory(id, 1));
        noSuchCar("directory at no place", id -> bus.directory(id, 0));
    }

    private void view() {
        checks.at("promise 10");
        ConsistBus bus = three();
        bus.add(40, 0);
        bus.couple(40, 1, 30, 1);
        bus.rounds(9, 0);
        viewIs(bus, 10, 0);
        viewIs(bus, 10, 1, 40, 60, 81);
        viewIs(bus, 20, 0, 21);
        viewIs(bus, 20, 1, 60, 81);
        viewIs(bus, 40, 1, 61, 41, 21);
        for (int k : new int[] {Integer.MIN_VALUE, -1, 24, 25, Integer.MAX_VALUE}) {
            checks.due("view(10, 1, " + k + ")", bus.view(10, 1, k), NONE);
        }
        noSuchCar("view", id -> bus.view(id, 0, 0));
        noSuchEnd("view", end -> bus.view(10, end, 0));
        noSuchEnd("view of no place", end -> bus.view(10, end, -1));
    }

    /** Two cars, coupled now here, now there, see one another again and again, and so have no directory. */
    private void viewIsCutAt24() {
        checks.at("promise 10, 24 cars at most");
        ConsistBus bus = new ConsistBus();
        bus.add(1, 0);
        bus.add(2, 0);
        bus.rounds(4, 0);
        for (int k = 0; k <= 25; k++) {
            bus.couple(1, k & 1, 2, 1 - (k & 1));
            bus.rounds(1, 0);
            bus.uncouple(1, k & 1);
            checks.due("cars in view " + k, bus.about(1, 8 + (k & 1)), Math.min(24, k + 1));
        }
        about(bus, 1, 0, 0, 0, 0, 2, 3, 1, 0, 24, 24, 1, 1);
        viewIs(bus, 1, 0, 5, 3, 5, 3, 5, 3, 5, 3, 5, 3, 5, 3, 5, 3, 5, 3, 5, 3, 5, 3, 5, 3, 5, 3);
        viewIs(bus, 1, 1, 4, 2, 4, 2, 4, 2, 4, 2, 4, 2, 4, 2, 4, 2, 4, 2, 4, 2, 4, 2, 4, 2, 4, 2);
        bus.rounds(4, 0);
        about(bus, 1, 2, 1, 0, 1, 2, 4, 4, 4, 0, 0, 1, 1);
    }

    private void put() {
        checks.at("promise 11");
        ConsistBus bus = pair();
        for (int i = 0; i <= 3; i++) {
            checks.due("put, byte " + i, bus.put(5, i, 255 - i), 0);
        }
        for (int i = 0; i <= 3; i++) {
            checks.due("put again, byte " + i, bus.put(5, i, i), 255 - i);
        }
        checks.due("put of the other car", bus.put(3, 0, 255), 0);
        for (int i : new int[] {Integer.MIN_VALUE, -1, 4, Integer.MAX_VALUE}) {
            checks.fails("put(5, " + i + ", 0)", () -> bus.put(5, i, 0), Checks.ARGUMENT);
        }
        for (int v : new int[] {Integer.MIN_VALUE, -1, 256, Integer.MAX_VALUE}) {
            checks.fails("put(5, 0, " + v + ")", () -> bus.put(5, 0, v), Checks.ARGUMENT);
            checks.fails("put(4, 0, " + v + ")", () -> bus.put(4, 0, v), Checks.NO_ELEMENT);
        }
        for (int i = 0; i <= 3; i++) {
            checks.due("put once more, byte " + i, bus.put(5, i, 0), i);
        }
        noSuchCar("put", id -> bus.put(id, 0, 0));
    }

    private void get() {
        checks.at("promise 12");
        ConsistBus bus = pair();
        for (int i = 0; i <= 3; i++) {
            bus.put(5, i, 252 + i);
        }
        for (int i = 0; i <= 4; i++) {
            checks.due("get(5, 1, " + i + ") without a directory", bus.get(5, 1, i), NONE);
            checks.due("get(5, 0, " + i + ") without a directory", bus.get(5, 0, i), NONE);
        }
        bus.rounds(5, 0);
        checks.due("get(3, 2, 0) before it heard", bus.get(3, 2, 0), NONE);
        checks.due("get(3, 2, 4) before it heard", bus.get(3, 2, 4), NONE);
        checks.due("get(3, 1, 4) of itself", bus.get(3, 1, 4), 0);
        bus.rounds(1, 0);
        for (int i = 0; i <= 3; i++) {
            checks.due("get(3, 2, " + i + ")", bus.get(3, 2, i), 252 + i);
            checks.due("get(5, 2, " + i + ")", bus.get(5, 2, i), 252 + i);
            checks.due("get(3, 1, " + i + ")", bus.get(3, 1, i), 0);
        }
        bus.put(5, 3, 1);
        checks.due("get(5, 2, 3) at once", bus.get(5, 2, 3), 1);
        checks.due("get(3, 2, 3) not yet", bus.get(3, 2, 3), 255);
        for (int n : new int[] {Integer.MIN_VALUE, -1, 0, 3, 25, Integer.MAX_VALUE}) {
            checks.due("get(3, " + n + ", 4)", bus.get(3, n, 4), NONE);
        }
        for (int i : new int[] {Integer.MIN_VALUE, -1, 5, Integer.MAX_VALUE}) {
            checks.fails("get(3, 1, " + i + ")", () -> bus.get(3, 1, i), Checks.ARGUMENT);
            checks.fails("get(3, 9, " + i + ")", () -> bus.get(3, 9, i), Checks.ARGUMENT);
            checks.fails("get(4, 1, " + i + ")", () -> bus.get(4, 1, i), Checks.NO_ELEMENT);
        }
        noSuchCar("get", id -> bus.get(id, 1, 0));
    }

    private void getAges() {
        checks.at("promise 12, ages");
        ConsistBus bus = three();
        bus.rounds(2, 0);
        checks.due("get(10, 2, 4)", bus.get(10, 2, 4), 1);
        checks.due("get(10, 3, 4)", bus.get(10, 3, 4), NONE);
        bus.put(30, 0, 3);
        bus.rounds(1, 0);
        checks.due("get(20, 3, 0)", bus.get(20, 3, 0), 3);
        checks.due("get(10, 3, 4)", bus.get(10, 3, 4), NONE);
        bus.rounds(1, 0);
        checks.due("get(10, 3, 4)", bus.get(10, 3, 4), 2);
        checks.due("get(10, 3, 0)", bus.get(10, 3, 0), 3);
        bus.put(30, 0, 4);
        bus.rounds(1, 2);
        checks.due("get(20, 3, 4) one is lost", bus.get(20, 3, 4), 2);
        checks.due("get(10, 3, 4) not here yet", bus.get(10, 3, 4), 2);
        bus.rounds(1, 2);
        checks.due("get(20, 3, 4) two are lost", bus.get(20, 3, 4), 3);
        checks.due("get(10, 3, 4) now here", bus.get(10, 3, 4), 3);
        checks.due("get(10, 3, 0)", bus.get(10, 3, 0), 3);
        bus.rounds(1, 0);
        checks.due("get(20, 3, 4) it is back", bus.get(20, 3, 4), 1);
        checks.due("get(20, 3, 0)", bus.get(20, 3, 0), 4);
        checks.due("get(10, 3, 4)", bus.get(10, 3, 4), 4);
        checks.due("get(10, 3, 0)", bus.get(10, 3, 0), 3);
        bus.rounds(1, 3);
        checks.due("get(10, 3, 4) all are lost", bus.get(10, 3, 4), 5);
        checks.due("get(10, 2, 4) all are lost", bus.get(10, 2, 4), 2);
        checks.due("get(10, 1, 4) all are lost", bus.get(10, 1, 4), 0);
    }

    private void getFromBothEnds() {
        checks.at("promise 12, a change drops what was known");
        ConsistBus bus = three();
        bus.rounds(9, 0);
        checks.due("get(20, 1, 4)", bus.get(20, 1, 4), 1);
        checks.due("get(20, 3, 4)", bus.get(20, 3, 4), 1);
        bus.uncouple(30, 0);
        bus.rounds(4, 0);
        checks.due("about(20, 3)", bus.about(20, 3), 2);
        checks.due("get(20, 1, 4) goes", bus.get(20, 1, 4), NONE);
        checks.due("get(20, 2, 4) stays", bus.get(20, 2, 4), 0);
        bus.rounds(1, 0);
        checks.due("get(20, 1, 4) not yet", bus.get(20, 1, 4), NONE);
        checks.due("get(10, 2, 4) comes", bus.get(10, 2, 4), 1);
        bus.rounds(1, 0);
        checks.due("get(20, 1, 4) comes", bus.get(20, 1, 4), 1);
    }

    private void side() {
        checks.at("promise 13");
        ConsistBus bus = pair();
        checks.due("side(3, 1, 8) without a directory", bus.side(3, 1, 8), NONE);
        bus.rounds(5, 0);
        for (int car : new int[] {3, 5}) {
            for (int function = 0; function < 16; function++) {
                int due = function < 8 ? function + 1 - 2 * (function % 2) : function;
                checks.due("side(" + car + ", 1, " + function + ")", bus.side(car, 1, function), due);
            }
            checks.due("side of 0", bus.side(car, 2, 0), 1);
            checks.due("side of 1", bus.side(car, 2, 1), NONE);
            checks.due("side of 2", bus.side(car, 2, 2), NONE);
            checks.due("side of 14", bus.side(car, 2, 14), NONE);
            checks.due("side of 15", bus.side(car, 2, 15), 15);
        }
        ConsistBus straight = three();
        straight.rounds(2, 0);
        for (int function = 0; function < 16; function++) {
            checks.due("side(10, 3, " + function + ")", straight.side(10, 3, function), function);
        }
    }

    private void sideWrong() {
        checks.at("promise 13, wrong inputs");
        ConsistBus bus = pair();
        bus.rounds(5, 0);
        for (int n : new int[] {Integer.MIN_VALUE, -1, 0, 3, 25, Integer.MAX_VALUE}) {
            checks.due("side(3, " + n + ", 15)", bus.side(3, n, 15), NONE);
        }
        for (int function : new int[] {Integer.MIN_VALUE, -1, 16, Integer.MAX_VALUE}) {
            checks.fails("side(3, 1, " + function + ")", () -> bus.side(3, 1, function), Checks.ARGUMENT);
            checks.fails("side(3, 9, " + function + ")", () -> bus.side(3, 9, function), Checks.ARGUMENT);
            checks.fails("side(4, 1, " + function + ")", () -> bus.side(4, 1, function), Checks.NO_ELEMENT);
        }
        noSuchCar("side", id -> bus.side(id, 1, 0));
    }

    private void order() {
        checks.at("promise 14");
        ConsistBus bus = three();
        bus.add(5, 0);
        checks.due("order(5, 1)", bus.order(5, 1), 5);
        checks.due("order(5, 2)", bus.order(5, 2), NONE);
        bus.couple(5, 1, 30, 1);
        for (int car : new int[] {5, 10, 20, 30}) {
            int[] ids = {NONE, 5, 30, 20, 10, NONE};
            for (int k = 0; k < ids.length; k++) {
                checks.due("order(" + car + ", " + k + ")", bus.order(car, k), ids[k]);
            }
        }
        bus.uncouple(20, 0);
        checks.due("order(10, 1)", bus.order(10, 1), 10);
        checks.due("order(20, 3)", bus.order(20, 3), 20);
        checks.due("order(20, 4)", bus.order(20, 4), NONE);
        for (int k : new int[] {Integer.MIN_VALUE, -1, 24, 25, Integer.MAX_VALUE}) {
            checks.due("order(20, " + k + ")", bus.order(20, k), NONE);
        }
        noSuchCar("order", id -> bus.order(id == 5 ? 6 : id, 1));
    }

    private void settled() {
        checks.at("promise 15");
        ConsistBus bus = three();
        checks.due("coupled just now", bus.settled(), 0);
        bus.rounds(1, 0);
        checks.due("after 1 round", bus.settled(), 0);
        bus.rounds(1, 0);
        checks.due("after 2 rounds", bus.settled(), 2);
        bus.rounds(1, 0);
        checks.due("after 3 rounds", bus.settled(), 3);
        bus.rounds(4, 1);
        checks.due("after losses, 30 has not heard of them yet", bus.settled(), 1);
        checks.due("about(10, 0)", bus.about(10, 0), 2);
        bus.uncouple(10, 1);
        checks.due("what was lost is parted", bus.settled(), 1);
        bus.rounds(1, 0);
        checks.due("and known to the others", bus.settled(), 2);
        bus.rounds(1, 0);
        checks.due("and agreed upon", bus.settled(), 3);
    }

    private void settledNeedsTrueEnds() {
        checks.at("promise 15, true ends");
        ConsistBus bus = pair();
        bus.rounds(5, 0);
        checks.due("true, but in state 1", bus.settled(), 0);
        bus.rounds(1, 0);
        checks.due("true", bus.settled(), 2);
        bus.uncouple(5, 1);
        checks.due("parted", bus.settled(), 0);
        bus.couple(5, 1, 3, 1);
        checks.due("about(3, 0)", bus.about(3, 0), 2);
        checks.due("the same order with another end", bus.settled(), 0);
        bus.uncouple(5, 1);
        bus.couple(5, 1, 3, 0);
        checks.due("as before", bus.settled(), 2);
    }

    /** All 24 cars in one run, every other one turned. */
    private void longTrain() {
        checks.at("promises 8 to 16, 24 cars");
        ConsistBus bus = new ConsistBus();
        for (int k = 0; k < 24; k++) {
            bus.add(255 - k, 65535);
        }
        for (int k = 0; k < 23; k++) {
            bus.couple(255 - k, 1 - k % 2, 254 - k, 1 - k % 2);
        }
        checks.due("rounds(60, 0)", bus.rounds(60, 0), 2760);
        checks.due("settled()", bus.settled(), 24);
        checks.due("about(255, 9)", bus.about(255, 9), 23);
        checks.due("about(255, 1)", bus.about(255, 1), 24);
        checks.due("about(232, 1)", bus.about(232, 1), 1);
        for (int n = 1; n <= 24; n++) {
            checks.due("directory(240, " + n + ")", bus.directory(240, n), 231 + n);
            checks.due("order(240, " + n + ")", bus.order(240, n), 231 + n);
            checks.due("get(232, " + n + ", 4)", bus.get(232, n, 4), n - 1);
            checks.due("side(232, " + n + ", 6)", bus.side(232, n, 6), n % 2 == 0 ? 7 : 6);
        }
        checks.due("the last coupling loses", bus.rounds(4, 1 << 22), 176);
        checks.due("about(232, 3)", bus.about(232, 3), 1);
    }

    private void count() {
        checks.at("promise 16");
        ConsistBus bus = three();
        bus.add(40, 0);
        bus.add(50, 0);
        bus.couple(50, 0, 40, 0);
        bus.rounds(7, 1);
        int[] due = {5, 3, 11, 2, 28};
        for (int what = 0; what < due.length; what++) {
            checks.due("count(" + what + ")", bus.count(what), due[what]);
        }
        bus.uncouple(40, 0);
        bus.uncouple(30, 0);
        checks.due("count(1)", bus.count(1), 1);
        checks.due("count(3)", bus.count(3), 4);
        for (int what : new int[] {Integer.MIN_VALUE, -1, 5, Integer.MAX_VALUE}) {
            checks.fails("count(" + what + ")", () -> bus.count(what), Checks.ARGUMENT);
        }
    }

    private void wrongCallsChangeNothing() {
        checks.at("exceptions");
        ConsistBus bus = pair();
        bus.put(3, 2, 55);
        bus.rounds(7, 0);
        String before = portrait(bus);
        Checks.answer(() -> bus.add(0, 0));
        Checks.answer(() -> bus.add(6, 65536));
        Checks.answer(() -> bus.add(5, 0));
        Checks.answer(() -> bus.couple(5, 0, 3, 1));
        Checks.answer(() -> bus.couple(5, 1, 3, 0));
        Checks.answer(() -> bus.couple(5, 0, 4, 1));
        Checks.answer(() -> bus.couple(5, 2, 3, 1));
        Checks.answer(() -> bus.uncouple(5, 0));
        Checks.answer(() -> bus.uncouple(5, 2));
        Checks.answer(() -> run(bus::reset, 4));
        Checks.answer(() -> bus.rounds(201, 0));
        Checks.answer(() -> bus.rounds(-1, 0));
        Checks.answer(() -> bus.put(3, 2, 256));
        Checks.answer(() -> bus.put(3, 4, 1));
        Checks.answer(() -> bus.put(4, 2, 1));
        checks.due("all that can be asked", portrait(bus), before);
        checks.fails("a car that was refused", () -> bus.about(6, 0), Checks.NO_ELEMENT);
        checks.due("the next coupling's number", bus.add(6, 0) + bus.couple(6, 0, 5, 0), 4);
    }

    private static String portrait(ConsistBus bus) {
        StringBuilder text = new StringBuilder();
        for (int car : new int[] {3, 5}) {
            for (int what = 0; what < 12; what++) {
                text.append(bus.about(car, what)).append(' ');
            }
            for (int end = 0; end < 2; end++) {
                text.append(bus.coupling(car, end)).append(' ');
                text.append(bus.view(car, end, 0)).append(' ').append(bus.view(car, end, 1)).append(' ');
            }
            for (int n = 1; n <= 3; n++) {
                text.append(bus.directory(car, n)).append(' ').append(bus.order(car, n)).append(' ');
                for (int i = 0; i <= 4; i++) {
                    text.append(bus.get(car, n, i)).append(' ');
                }
                for (int function = 0; function < 16; function++) {
                    text.append(bus.side(car, n, function)).append(' ');
                }
            }
        }
        for (int what = 0; what <= 4; what++) {
            text.append(bus.count(what)).append(' ');
        }
        return text.append(bus.settled()).toString();
    }
}
