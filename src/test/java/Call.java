import java.util.Arrays;

/** A call with its arguments, to be made on any object. */
final class Call {
    final String name;
    final int[] arguments;

    Call(String name, int... arguments) {
        this.name = name;
        this.arguments = arguments;
    }

    /** What the call answers (0 for reset, which answers nothing), or the name of what it throws. */
    Object on(ConsistBus bus) {
        return Checks.answer(() -> ask(bus));
    }

    private int ask(ConsistBus bus) {
        int[] a = arguments;
        return switch (name) {
            case "add" -> bus.add(a[0], a[1]);
            case "couple" -> bus.couple(a[0], a[1], a[2], a[3]);
            case "uncouple" -> bus.uncouple(a[0], a[1]);
            case "reset" -> {
                bus.reset(a[0]);
                yield 0;
            }
            case "rounds" -> bus.rounds(a[0], a[1]);
            case "coupling" -> bus.coupling(a[0], a[1]);
            case "about" -> bus.about(a[0], a[1]);
            case "directory" -> bus.directory(a[0], a[1]);
            case "view" -> bus.view(a[0], a[1], a[2]);
            case "put" -> bus.put(a[0], a[1], a[2]);
            case "get" -> bus.get(a[0], a[1], a[2]);
            case "side" -> bus.side(a[0], a[1], a[2]);
            case "order" -> bus.order(a[0], a[1]);
            case "settled" -> bus.settled();
            case "count" -> bus.count(a[0]);
            default -> throw new AssertionError("there is no call " + name);
        };
    }

    @Override
    public String toString() {
        return name + Arrays.toString(arguments).replace('[', '(').replace(']', ')');
    }
}
