import java.util.ArrayList;
import java.util.List;

/** All that can be asked of an object after some calls, and after some rounds more, when what is hidden shows. */
final class Portrait {
    private static final int MOST_CALLS = 512;

    private final List<Call> calls;
    private final List<Call> refused;
    private final List<Integer> ids = new ArrayList<>();
    private final List<String> lines = new ArrayList<>();

    private Portrait(List<Call> calls, List<Call> refused) {
        this.calls = calls;
        this.refused = refused;
        for (Call call : calls) {
            if (call.name.equals("add")) {
                ids.add(call.arguments[0]);
            }
        }
    }

    /** After these calls, all of which were taken, and then those that were refused. */
    static List<String> after(List<Call> calls, List<Call> refused) {
        Portrait portrait = new Portrait(calls, refused);
        for (int rounds : new int[] {0, 1, 6}) {
            portrait.ask(rounds, portrait.general());
            for (int id : portrait.ids) {
                portrait.ask(rounds, portrait.ofCar(id));
            }
        }
        return portrait.lines;
    }

    /** Each part is asked of an object of its own, since an object answers but 512 calls. */
    private void ask(int rounds, List<Call> questions) {
        if (calls.size() + refused.size() + 1 + questions.size() > MOST_CALLS) {
            throw new AssertionError("the test makes too many calls");
        }
        ConsistBus bus = new ConsistBus();
        calls.forEach(call -> call.on(bus));
        refused.forEach(call -> call.on(bus));
        new Call("rounds", rounds, 0).on(bus);
        for (Call question : questions) {
            lines.add(rounds + " rounds later " + question + " " + question.on(bus));
        }
    }

    private List<Call> general() {
        List<Call> questions = new ArrayList<>();
        for (int what = 0; what <= 4; what++) {
            questions.add(new Call("count", what));
        }
        questions.add(new Call("settled"));
        int free = 0;
        for (int id = 1; id <= 255; id++) {
            questions.add(new Call("coupling", id, 0));
            free = ids.contains(id) ? free : id;
        }
        questions.add(new Call("add", free, 0));
        for (int id : ids) {
            questions.add(new Call("couple", free, 1, id, 0));
        }
        return questions;
    }

    private List<Call> ofCar(int id) {
        List<Call> questions = new ArrayList<>();
        for (int what = 0; what <= 11; what++) {
            questions.add(new Call("about", id, what));
        }
        for (int end = 0; end <= 1; end++) {
            questions.add(new Call("coupling", id, end));
            for (int k = 0; k <= ids.size(); k++) {
                questions.add(new Call("view", id, end, k));
            }
        }
        for (int n = 0; n <= ids.size(); n++) {
            questions.add(new Call("directory", id, n));
            questions.add(new Call("order", id, n));
            questions.add(new Call("side", id, n, 0));
            questions.add(new Call("side", id, n, 15));
            for (int i = 0; i <= 4; i++) {
                questions.add(new Call("get", id, n, i));
            }
        }
        for (int i = 0; i <= 3; i++) {
            questions.add(new Call("put", id, i, 0));
        }
        return questions;
    }
}
