import java.util.ArrayList;
import java.util.Collections;
import java.util.HashMap;
import java.util.HashSet;
import java.util.List;
import java.util.Map;
import java.util.NoSuchElementException;
import java.util.Set;
import java.util.TreeMap;

/**
 * The document once more, written apart from the program: values that never change, lists and maps, and news held by
 * id rather than by place.
 */
final class Model {
    record Seen(int id, int end) {
        Seen turned() {
            return new Seen(id, 1 - end);
        }
    }

    record View(List<Seen> cars, boolean whole) { }

    record News(int age, List<Integer> bytes) { }

    record Frame(Seen sender, View view, List<Seen> directory, Map<Integer, News> news) { }

    record Coupling(Seen one, Seen other) {
        Seen across(Seen end) {
            return end.equals(one) ? other : end.equals(other) ? one : null;
        }
    }

    static final class Car {
        final int id;
        final int mask;
        List<Integer> bytes = List.of(0, 0, 0, 0);
        View[] views;
        int[] silences;
        Frame[] latest;
        Map<Integer, News> news;
        int crosses;
        int changes;

        Car(int id, int mask) {
            this.id = id;
            this.mask = mask;
            forget();
        }

        void forget() {
            views = new View[] {new View(List.of(), false), new View(List.of(), false)};
            silences = new int[2];
            latest = new Frame[2];
            news = new HashMap<>();
            crosses = 0;
            changes = 0;
        }

        /** Null if there is none. */
        List<Seen> directory() {
            if (!views[0].whole() || !views[1].whole()) {
                return null;
            }
            List<Seen> run = new ArrayList<>(turned(views[0].cars()));
            run.add(new Seen(id, 0));
            run.addAll(views[1].cars());
            Set<Integer> ids = new HashSet<>();
            for (Seen seen : run) {
                if (!ids.add(seen.id())) {
                    return null;
                }
            }
            return run.get(0).id() > run.get(run.size() - 1).id() ? turned(run) : run;
        }

        int state() {
            List<Seen> now = directory();
            if (now == null) {
                return 0;
            }
            for (int end = 0; end < 2; end++) {
                if (silences[end] < 4 && (latest[end] == null || !now.equals(latest[end].directory()))) {
                    return 1;
                }
            }
            return 2;
        }

        Frame frame(int end) {
            Map<Integer, News> all = new HashMap<>(news);
            all.put(id, new News(0, bytes));
            return new Frame(new Seen(id, end), views[1 - end], directory(), all);
        }

        void hear(Frame[] heard) {
            List<Seen> before = directory();
            for (int end = 0; end < 2; end++) {
                look(end, heard[end]);
            }
            List<Seen> now = directory();
            if (before == null ? now != null : !before.equals(now)) {
                news.clear();
                changes++;
            }
            news.replaceAll((other, known) -> new News(known.age() + 1, known.bytes()));
            for (int end = 0; end < 2; end++) {
                if (heard[end] != null && heard[end].directory() != null) {
                    learn(heard[end], now);
                }
            }
        }

        private void look(int end, Frame frame) {
            if (frame == null) {
                silences[end] = Math.min(4, silences[end] + 1);
                if (silences[end] == 4) {
                    views[end] = new View(List.of(), true);
                }
                return;
            }
            List<Seen> cars = new ArrayList<>();
            cars.add(frame.sender());
            cars.addAll(frame.view().cars());
            views[end] = new View(List.copyOf(cars.subList(0, Math.min(24, cars.size()))), frame.view().whole());
            silences[end] = 0;
            latest[end] = frame;
        }

        private void learn(Frame frame, List<Seen> now) {
            if (!frame.directory().equals(now)) {
                crosses++;
                return;
            }
            for (Seen seen : now) {
                News told = frame.news().get(seen.id());
                News known = news.get(seen.id());
                if (seen.id() != id && told != null && (known == null || told.age() + 1 < known.age())) {
                    news.put(seen.id(), new News(told.age() + 1, told.bytes()));
                }
            }
        }
    }

    private static List<Seen> turned(List<Seen> row) {
        List<Seen> result = new ArrayList<>();
        for (Seen seen : row) {
            result.add(seen.turned());
        }
        Collections.reverse(result);
        return result;
    }

    final Map<Integer, Car> cars = new TreeMap<>();
    final Map<Integer, Coupling> couplings = new TreeMap<>();
    private int rounds;
    private int frames;

    private Car car(int id) {
        if (!cars.containsKey(id)) {
            throw new NoSuchElementException();
        }
        return cars.get(id);
    }

    private Seen end(int id, int end) {
        car(id);
        if (end < 0 || end > 1) {
            throw new NoSuchElementException();
        }
        return new Seen(id, end);
    }

    private static void within(int value, int least, int most) {
        if (value < least || value > most) {
            throw new IllegalArgumentException();
        }
    }

    private static void allowed(boolean is) {
        if (!is) {
            throw new IllegalStateException();
        }
    }

    int numberAt(Seen end) {
        for (Map.Entry<Integer, Coupling> entry : couplings.entrySet()) {
            if (entry.getValue().across(end) != null) {
                return entry.getKey();
            }
        }
        return -1;
    }

    private Seen across(Seen end) {
        int number = numberAt(end);
        return number < 0 ? null : couplings.get(number).across(end);
    }

    /** The cars beyond an end as they truly are, each with the end that it turns to here. */
    private List<Seen> beyond(Seen end) {
        List<Seen> result = new ArrayList<>();
        for (Seen next = across(end); next != null; next = across(next.turned())) {
            result.add(next);
        }
        return result;
    }

    private List<Seen> trueOrder(int id) {
        List<Seen> run = new ArrayList<>(turned(beyond(new Seen(id, 0))));
        run.add(new Seen(id, 0));
        run.addAll(beyond(new Seen(id, 1)));
        return run.get(0).id() > run.get(run.size() - 1).id() ? turned(run) : run;
    }

    private static Seen at(List<Seen> row, int place) {
        return row == null || place < 0 || place >= row.size() ? null : row.get(place);
    }

    int add(int id, int mask) {
        within(id, 1, 255);
        within(mask, 0, 65535);
        allowed(!cars.containsKey(id) && cars.size() < 24);
        cars.put(id, new Car(id, mask));
        return cars.size();
    }

    int couple(int a, int endA, int b, int endB) {
        Seen one = end(a, endA);
        Seen other = end(b, endB);
        allowed(numberAt(one) < 0 && numberAt(other) < 0);
        allowed(trueOrder(a).stream().noneMatch(seen -> seen.id() == b));
        int number = 0;
        while (couplings.containsKey(number)) {
            number++;
        }
        couplings.put(number, new Coupling(one, other));
        return number;
    }

    int uncouple(int car, int end) {
        int number = numberAt(end(car, end));
        allowed(number >= 0);
        couplings.remove(number);
        return number;
    }

    int reset(int car) {
        car(car).forget();
        return 0;
    }

    int rounds(int n, int losses) {
        within(n, 0, 200);
        int came = 0;
        for (int k = 0; k < n; k++) {
            came += round(losses);
        }
        rounds += n;
        frames += came;
        return came;
    }

    private int round(int losses) {
        Map<Seen, Frame> coming = new HashMap<>();
        couplings.forEach((number, coupling) -> {
            if ((losses >>> number) % 2 == 0) {
                Seen one = coupling.one();
                Seen other = coupling.other();
                coming.put(other, cars.get(one.id()).frame(one.end()));
                coming.put(one, cars.get(other.id()).frame(other.end()));
            }
        });
        for (Car car : cars.values()) {
            car.hear(new Frame[] {coming.get(new Seen(car.id, 0)), coming.get(new Seen(car.id, 1))});
        }
        return coming.size();
    }

    int coupling(int car, int end) {
        return numberAt(end(car, end));
    }

    int about(int id, int what) {
        Car car = car(id);
        within(what, 0, 11);
        List<Seen> directory = car.directory();
        int place = -1;
        for (int k = 0; directory != null && k < directory.size(); k++) {
            place = directory.get(k).id() == id ? k : place;
        }
        int[] facts = {
            car.state(), place + 1, place >= 0 ? directory.get(place).end() : 0,
            directory == null ? 0 : directory.size(), car.crosses, car.changes, car.silences[0], car.silences[1],
            car.views[0].cars().size(), car.views[1].cars().size(), car.views[0].whole() ? 1 : 0,
            car.views[1].whole() ? 1 : 0};
        return facts[what];
    }

    int directory(int car, int k) {
        Seen seen = at(car(car).directory(), k - 1);
        return k < 1 || seen == null ? -1 : seen.id();
    }

    int view(int car, int end, int k) {
        end(car, end);
        Seen seen = at(car(car).views[end].cars(), k);
        return seen == null ? -1 : 2 * seen.id() + seen.end();
    }

    int put(int id, int i, int v) {
        Car car = car(id);
        within(i, 0, 3);
        within(v, 0, 255);
        List<Integer> bytes = new ArrayList<>(car.bytes);
        int before = bytes.set(i, v);
        car.bytes = List.copyOf(bytes);
        return before;
    }

    int get(int id, int n, int i) {
        Car car = car(id);
        within(i, 0, 4);
        Seen seen = n < 1 ? null : at(car.directory(), n - 1);
        if (seen == null) {
            return -1;
        }
        News news = seen.id() == id ? new News(0, car.bytes) : car.news.get(seen.id());
        return news == null ? -1 : i == 4 ? news.age() : news.bytes().get(i);
    }

    int side(int id, int n, int function) {
        Car car = car(id);
        within(function, 0, 15);
        Seen seen = n < 1 ? null : at(car.directory(), n - 1);
        if (seen == null) {
            return -1;
        }
        int[] others = {1, 0, 3, 2, 5, 4, 7, 6, 8, 9, 10, 11, 12, 13, 14, 15};
        int same = seen.end() == 1 ? others[function] : function;
        return (cars.get(seen.id()).mask >>> same) % 2 == 1 ? same : -1;
    }

    int order(int car, int k) {
        car(car);
        Seen seen = k < 1 ? null : at(trueOrder(car), k - 1);
        return seen == null ? -1 : seen.id();
    }

    int settled() {
        int sum = 0;
        for (Car car : cars.values()) {
            sum += car.state() == 2 && car.directory().equals(trueOrder(car.id)) ? 1 : 0;
        }
        return sum;
    }

    int count(int what) {
        within(what, 0, 4);
        Set<List<Seen>> runs = new HashSet<>();
        for (int id : cars.keySet()) {
            runs.add(trueOrder(id));
        }
        return new int[] {cars.size(), couplings.size(), rounds, runs.size(), frames}[what];
    }
}
