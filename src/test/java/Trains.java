/** Trains that many tests begin with, written as the calls that make them. */
final class Trains {
    /**
     * Cars 5 and 3 with end 1 of 5 to end 0 of 3: they have a directory, 3 and 5, both flipped, after five rounds, and
     * agree on it after six.
     */
    static final String PAIR = "add(5, 32770); add(3, 65535); couple(5, 1, 3, 0) = 0;";

    /**
     * Cars 10, 20 and 30, each of which knows itself alone, coupled then in this order, none turned: 10 and 30 agree
     * after two rounds, 20 after three.
     */
    static final String THREE = "add(10, 65535); add(20, 65535); add(30, 65535); rounds(4, 0) = 0;"
            + "couple(10, 1, 20, 0) = 0; couple(20, 1, 30, 0) = 1;";

    /** Car 1's end 0 to car 2's end 1, and the other way round the next time: stale views grow by a car each time. */
    static final String SHUTTLE_THERE = "couple(1, 0, 2, 1) = 0; rounds(1, 0) = 2; uncouple(1, 0) = 0;";
    static final String SHUTTLE_BACK = "couple(1, 1, 2, 0) = 0; rounds(1, 0) = 2; uncouple(2, 0) = 0;";

    private Trains() { }

    /** Cars with all functions, of which each has its end 1 coupled to end 0 of the next. */
    static String line(int... ids) {
        StringBuilder text = new StringBuilder(cars(ids));
        for (int k = 1; k < ids.length; k++) {
            text.append("couple(" + ids[k - 1] + ", 1, " + ids[k] + ", 0) = " + (k - 1) + ";");
        }
        return text.toString();
    }

    static String cars(int... ids) {
        StringBuilder text = new StringBuilder();
        for (int k = 0; k < ids.length; k++) {
            text.append("add(" + ids[k] + ", 65535) = " + (k + 1) + ";");
        }
        return text.toString();
    }

    /** The numbers from the first to the last one, upwards or downwards. */
    static int[] from(int first, int last) {
        int[] numbers = new int[Math.abs(last - first) + 1];
        for (int k = 0; k < numbers.length; k++) {
            numbers[k] = first < last ? first + k : first - k;
        }
        return numbers;
    }

    static String written(int... numbers) {
        StringBuilder text = new StringBuilder();
        for (int number : numbers) {
            text.append(number).append(' ');
        }
        return text.toString();
    }
}
