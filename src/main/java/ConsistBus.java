import java.util.Arrays;
import java.util.NoSuchElementException;

/**
 * Cars of a train that tell one another, round by round, who is there and in which order.
 *
 * <p>A car with one of its ends is written as one number throughout, an item: 2 * id + end.
 */
public final class ConsistBus {
    public static final int NONE = -1;

    private static final int MOST_CARS = 24;
    private static final int MOST_ID = 255;
    private static final int MOST_MASK = 65535;
    private static final int MOST_ROUNDS = 200;
    private static final int SILENT = 4;
    private static final int BYTES = 4;
    private static final int AGE = 4;
    private static final int MOST_BYTE = 255;
    private static final int FUNCTIONS = 16;
    private static final int SIDED_FUNCTIONS = 8;
    private static final int FACTS = 12;
    private static final int COUNTS = 5;

    private final Car[] cars;
    private final Car[] carsById;
    private final boolean[] marks;
    private final Row run;
    private int carCount;
    private int couplingCount;
    private int takenNumbers;
    private int roundCount;
    private int frameCount;

    public ConsistBus() {
        cars = new Car[MOST_CARS];
        carsById = new Car[MOST_ID + 1];
        marks = new boolean[MOST_ID + 1];
        run = new Row();
    }

    public int add(int id, int mask) throws IllegalArgumentException, IllegalStateException {
        if (id < 1 || id > MOST_ID || mask < 0 || mask > MOST_MASK) {
            throw new IllegalArgumentException("id or mask out of range");
        }
        if (carsById[id] != null || carCount >= MOST_CARS) {
            throw new IllegalStateException("the id is taken, or the train is full");
        }
        Car car = new Car(id, mask);
        carsById[id] = car;
        cars[carCount] = car;
        carCount++;
        return carCount;
    }

    public int couple(int a, int endA, int b, int endB) throws NoSuchElementException, IllegalStateException {
        End one = endOf(a, endA);
        End other = endOf(b, endB);
        if (one.peer != null || other.peer != null || trueRun(carOf(a)).numberOf(b) != 0) {
            throw new IllegalStateException("an end is coupled, or both cars are of one run");
        }
        int number = freeNumber();
        takenNumbers |= 1 << number;
        couplingCount++;
        one.join(other, number);
        other.join(one, number);
        return number;
    }

    public int uncouple(int car, int end) throws NoSuchElementException, IllegalStateException {
        End one = endOf(car, end);
        End other = one.peer;
        if (other == null) {
            throw new IllegalStateException("the end is not coupled");
        }
        int number = one.number;
        takenNumbers &= ~(1 << number);
        couplingCount--;
        one.part();
        other.part();
        return number;
    }

    public void reset(int car) throws NoSuchElementException {
        carOf(car).forget();
    }

    public int rounds(int n, int losses) throws IllegalArgumentException {
        if (n < 0 || n > MOST_ROUNDS) {
            throw new IllegalArgumentException("rounds out of range");
        }
        int came = 0;
        for (int k = 0; k < n; k++) {
            came += playRound(losses);
        }
        roundCount += n;
        frameCount += came;
        return came;
    }

    public int coupling(int car, int end) throws NoSuchElementException {
        return endOf(car, end).number;
    }

    public int about(int car, int what) throws NoSuchElementException, IllegalArgumentException {
        Car found = carOf(car);
        if (what < 0 || what >= FACTS) {
            throw new IllegalArgumentException("there is no such fact");
        }
        return found.fact(what);
    }

    public int directory(int car, int k) throws NoSuchElementException {
        return carOf(car).directory.idAt(k);
    }

    public int view(int car, int end, int k) throws NoSuchElementException {
        return endOf(car, end).view.itemAt(k);
    }

    public int put(int car, int i, int v) throws NoSuchElementException, IllegalArgumentException {
        Car found = carOf(car);
        if (i < 0 || i >= BYTES || v < 0 || v > MOST_BYTE) {
            throw new IllegalArgumentException("byte or value out of range");
        }
        return found.replaceByte(i, v);
    }

    public int get(int car, int n, int i) throws NoSuchElementException, IllegalArgumentException {
        Car found = carOf(car);
        if (i < 0 || i > AGE) {
            throw new IllegalArgumentException("byte out of range");
        }
        return found.known(n, i);
    }

    public int side(int car, int n, int function) throws NoSuchElementException, IllegalArgumentException {
        Row directory = carOf(car).directory;
        if (function < 0 || function >= FUNCTIONS) {
            throw new IllegalArgumentException("there is no such function");
        }
        Car other = carWithId(directory.idAt(n));
        if (other == null) {
            return NONE;
        }
        boolean crossed = function < SIDED_FUNCTIONS && directory.endAt(n) == 1;
        int same = crossed ? function ^ 1 : function;
        return other.hasFunction(same) ? same : NONE;
    }

    public int order(int car, int k) throws NoSuchElementException {
        return trueRun(carOf(car)).idAt(k);
    }

    public int settled() {
        int sum = 0;
        for (int k = 0; k < carCount; k++) {
            Car car = cars[k];
            if (car.state() == 2 && car.directory.isSameAs(trueRun(car))) {
                sum++;
            }
        }
        return sum;
    }

    public int count(int what) throws IllegalArgumentException {
        if (what < 0 || what >= COUNTS) {
            throw new IllegalArgumentException("there is no such count");
        }
        switch (what) {
            case 0:
                return carCount;
            case 1:
                return couplingCount;
            case 2:
                return roundCount;
            case 3:
                // No run is a ring, so each coupling makes one run of two.
                return carCount - couplingCount;
            default:
                return frameCount;
        }
    }

    private Car carWithId(int id) {
        return id < 1 || id > MOST_ID ? null : carsById[id];
    }

    private Car carOf(int id) {
        Car car = carWithId(id);
        if (car == null) {
            throw new NoSuchElementException("there is no such car");
        }
        return car;
    }

    private End endOf(int id, int end) {
        Car car = carOf(id);
        if (end != 0 && end != 1) {
            throw new NoSuchElementException("there is no such end");
        }
        return car.ends[end];
    }

    private int freeNumber() {
        int number = 0;
        while (number < MOST_CARS && (takenNumbers >> number & 1) != 0) {
            number++;
        }
        return number;
    }

    /** The cars of a car's run in their true order; the row is used again by the next call. */
    private Row trueRun(Car car) {
        End first = car.ends[0].outermost();
        End last = car.ends[1].outermost();
        End at = first.item >> 1 <= last.item >> 1 ? first : last;
        run.clear();
        for (int k = 0; k < MOST_CARS && at != null; k++) {
            run.append(at.item);
            at = at.opposite.peer;
        }
        return run;
    }

    private int playRound(int losses) {
        // All frames are made before any is heard: what is heard now is told in the next round only.
        for (int k = 0; k < carCount; k++) {
            cars[k].makeFrames();
        }
        int came = 0;
        for (int k = 0; k < carCount; k++) {
            came += cars[k].listen(losses, marks);
        }
        return came;
    }

    /** Items one behind the other, at most as many as there can be cars; places count from 0, numbers from 1. */
    private static final class Row {
        final int[] items;
        int size;

        Row() {
            items = new int[MOST_CARS];
        }

        void clear() {
            size = 0;
        }

        /** What does not fit is left out. */
        void append(int item) {
            if (size < items.length) {
                items[size] = item;
                size++;
            }
        }

        void appendAll(Row row) {
            int fitting = Math.min(row.size, items.length - size);
            System.arraycopy(row.items, 0, items, size, fitting);
            size += fitting;
        }

        void copyFrom(Row row) {
            System.arraycopy(row.items, 0, items, 0, row.size);
            size = row.size;
        }

        boolean isSameAs(Row row) {
            if (size != row.size) {
                return false;
            }
            for (int k = 0; k < size; k++) {
                if (items[k] != row.items[k]) {
                    return false;
                }
            }
            return true;
        }

        int itemAt(int place) {
            return place < 0 || place >= size ? NONE : items[place];
        }

        int idAt(int number) {
            return number < 1 || number > size ? NONE : items[number - 1] >> 1;
        }

        int endAt(int number) {
            return number < 1 || number > size ? NONE : items[number - 1] & 1;
        }

        /** The number of the car with this id, 0 if it is not here. */
        int numberOf(int id) {
            for (int k = 0; k < size; k++) {
                if (items[k] >> 1 == id) {
                    return k + 1;
                }
            }
            return 0;
        }

        /** The marks, one for each id, are all off before and after. */
        boolean hasCarTwice(boolean[] marks) {
            boolean twice = false;
            for (int k = 0; k < size; k++) {
                int id = items[k] >> 1;
                twice = twice || marks[id];
                marks[id] = true;
            }
            for (int k = 0; k < size; k++) {
                marks[items[k] >> 1] = false;
            }
            return twice;
        }

        /** Seen from the other side: the last one is first, and each shows its other end. */
        void turnRound() {
            for (int k = 0; 2 * k < size; k++) {
                int last = size - 1 - k;
                int item = items[k];
                items[k] = items[last] ^ 1;
                items[last] = item ^ 1;
            }
        }
    }

    /** What an end sends in a round. */
    private static final class Frame {
        final Row view;
        final Row directory;
        final int[] ages;
        final int[] words;
        int sender;
        boolean whole;

        Frame() {
            view = new Row();
            directory = new Row();
            ages = new int[MOST_CARS];
            words = new int[MOST_CARS];
        }
    }

    /** One end of a car: its coupling, and what the car knows through it. */
    private static final class End {
        final int item;
        final Row view;
        final Row toldDirectory;
        final Frame frame;
        End opposite;
        End peer;
        int number;
        boolean whole;
        int silence;

        End(int item) {
            this.item = item;
            view = new Row();
            toldDirectory = new Row();
            frame = new Frame();
            number = NONE;
        }

        void join(End end, int couplingNumber) {
            peer = end;
            number = couplingNumber;
        }

        void part() {
            peer = null;
            number = NONE;
        }

        void forget() {
            view.clear();
            toldDirectory.clear();
            whole = false;
            silence = 0;
        }

        /** The free end at which the run stops beyond this end. */
        End outermost() {
            End at = this;
            for (int k = 0; k < MOST_CARS && at.peer != null; k++) {
                at = at.peer.opposite;
            }
            return at;
        }

        /** The frame that comes over to this end in a round, null if none does. */
        Frame incoming(int losses) {
            return peer == null || (losses >> number & 1) != 0 ? null : peer.frame;
        }

        void lookInto(Frame heard) {
            if (heard == null) {
                fallSilent();
                return;
            }
            silence = 0;
            view.clear();
            view.append(heard.sender);
            view.appendAll(heard.view);
            whole = heard.whole;
            toldDirectory.copyFrom(heard.directory);
        }

        private void fallSilent() {
            silence = Math.min(silence + 1, SILENT);
            if (silence == SILENT) {
                view.clear();
                whole = true;
            }
        }
    }

    /** A car with what it knows; an empty directory is none, for a car's own always has the car itself. */
    private static final class Car {
        final int id;
        final int mask;
        final End[] ends;
        final Row directory;
        final Row draft;
        final int[] ages;
        final int[] words;
        int number;
        int ownWord;
        int changes;
        int crosses;

        Car(int id, int mask) {
            this.id = id;
            this.mask = mask;
            ends = new End[2];
            ends[0] = new End(2 * id);
            ends[1] = new End(2 * id + 1);
            ends[0].opposite = ends[1];
            ends[1].opposite = ends[0];
            directory = new Row();
            draft = new Row();
            ages = new int[MOST_CARS];
            words = new int[MOST_CARS];
            Arrays.fill(ages, NONE);
        }

        boolean hasFunction(int function) {
            return (mask >> function & 1) != 0;
        }

        void forget() {
            ends[0].forget();
            ends[1].forget();
            directory.clear();
            number = 0;
            Arrays.fill(ages, NONE);
            changes = 0;
            crosses = 0;
        }

        int replaceByte(int i, int v) {
            int before = byteOf(ownWord, i);
            ownWord = ownWord & ~(MOST_BYTE << 8 * i) | v << 8 * i;
            return before;
        }

        int known(int n, int i) {
            if (n < 1 || n > directory.size) {
                return NONE;
            }
            int age = n == number ? 0 : ages[n - 1];
            if (age == NONE || i == AGE) {
                return age;
            }
            return byteOf(n == number ? ownWord : words[n - 1], i);
        }

        int fact(int what) {
            switch (what) {
                case 0:
                    return state();
                case 1:
                    return number;
                case 2:
                    return directory.endAt(number) == 1 ? 1 : 0;
                case 3:
                    return directory.size;
                case 4:
                    return crosses;
                case 5:
                    return changes;
                case 6:
                case 7:
                    return ends[what - 6].silence;
                case 8:
                case 9:
                    return ends[what - 8].view.size;
                case 10:
                case 11:
                    return ends[what - 10].whole ? 1 : 0;
                default:
                    return NONE;
            }
        }

        int state() {
            if (directory.size == 0) {
                return 0;
            }
            return agreesAt(ends[0]) && agreesAt(ends[1]) ? 2 : 1;
        }

        private boolean agreesAt(End end) {
            return end.silence >= SILENT || end.toldDirectory.isSameAs(directory);
        }

        void makeFrames() {
            for (int e = 0; e < 2; e++) {
                if (ends[e].peer != null) {
                    fillFrame(ends[e]);
                }
            }
        }

        private void fillFrame(End end) {
            Frame frame = end.frame;
            frame.sender = end.item;
            frame.view.copyFrom(end.opposite.view);
            frame.whole = end.opposite.whole;
            frame.directory.copyFrom(directory);
            System.arraycopy(ages, 0, frame.ages, 0, directory.size);
            System.arraycopy(words, 0, frame.words, 0, directory.size);
            if (number > 0) {
                frame.ages[number - 1] = 0;
                frame.words[number - 1] = ownWord;
            }
        }

        /** A round's three steps, with the frames that come over: how many did. */
        int listen(int losses, boolean[] marks) {
            Frame heard0 = ends[0].incoming(losses);
            Frame heard1 = ends[1].incoming(losses);
            ends[0].lookInto(heard0);
            ends[1].lookInto(heard1);
            renewDirectory(marks);
            growOlder();
            return heed(heard0) + heed(heard1);
        }

        private void renewDirectory(boolean[] marks) {
            draftDirectory(marks);
            if (draft.isSameAs(directory)) {
                return;
            }
            directory.copyFrom(draft);
            number = directory.numberOf(id);
            Arrays.fill(ages, NONE);
            changes++;
        }

        private void draftDirectory(boolean[] marks) {
            Row before = ends[0].view;
            Row behind = ends[1].view;
            // There are no more cars than that, so a longer run has one of them twice.
            boolean tooLong = before.size + 1 + behind.size > MOST_CARS;
            if (!ends[0].whole || !ends[1].whole || tooLong) {
                draft.clear();
                return;
            }
            draft.copyFrom(before);
            draft.turnRound();
            draft.append(ends[0].item);
            draft.appendAll(behind);
            if (draft.hasCarTwice(marks)) {
                draft.clear();
            } else if (draft.idAt(1) > draft.idAt(draft.size)) {
                draft.turnRound();
            }
        }

        private void growOlder() {
            for (int k = 0; k < directory.size; k++) {
                if (ages[k] != NONE) {
                    ages[k]++;
                }
            }
        }

        /** Takes what a frame tells of the others: how many frames that were, 0 or 1. */
        private int heed(Frame heard) {
            if (heard == null) {
                return 0;
            }
            if (heard.directory.size > 0) {
                if (heard.directory.isSameAs(directory)) {
                    takeNews(heard);
                } else {
                    crosses++;
                }
            }
            return 1;
        }

        private void takeNews(Frame heard) {
            for (int k = 0; k < directory.size; k++) {
                int age = heard.ages[k];
                boolean newer = ages[k] == NONE || age + 1 < ages[k];
                // Of itself a car keeps nothing here: its own word is always there.
                if (k != number - 1 && age != NONE && newer) {
                    ages[k] = age + 1;
                    words[k] = heard.words[k];
                }
            }
        }

        private static int byteOf(int word, int i) {
            return word >> 8 * i & MOST_BYTE;
        }
    }
}
