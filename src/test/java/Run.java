import java.util.ArrayList;
import java.util.List;
import java.util.regex.Matcher;
import java.util.regex.Pattern;

/**
 * A run of calls on a new object, written as text with the answers that are due.
 *
 * <p>{@code add(3, 0); add(5, 0) = 2; add(3|5, 0) = IllegalStateException; order(3, 0..2) = NONE 3 NONE}: a choice or
 * a range of arguments is a call for each, with an answer for each or one for all; where no answer is written, any
 * will do, but no exception. Of each call that is refused the run also checks that it changed nothing.
 */
final class Run {
    private static final int MOST_CALLS = 512;
    private static final Pattern ROW = Pattern.compile("(\\w+)\\(([^)]*)\\)(?: = (.+))?");

    private final Checks checks;
    private final ConsistBus bus = new ConsistBus();
    private final List<Call> taken = new ArrayList<>();
    private int made = 0;

    Run(Checks checks) {
        this.checks = checks;
    }

    Run calls(String rows) {
        for (String row : rows.split(";")) {
            if (!row.isBlank()) {
                play(row.strip());
            }
        }
        return this;
    }

    Run calls(int times, String rows) {
        for (int k = 0; k < times; k++) {
            calls(rows);
        }
        return this;
    }

    int made() {
        return made;
    }

    private void play(String row) {
        Matcher parts = ROW.matcher(row);
        if (!parts.matches()) {
            throw new AssertionError("badly written: " + row);
        }
        List<Call> calls = new ArrayList<>();
        String[] arguments = parts.group(2).isBlank() ? new String[0] : parts.group(2).split(",");
        spread(calls, parts.group(1), arguments, new int[arguments.length], 0);
        String[] answers = parts.group(3) == null ? new String[] {""} : parts.group(3).strip().split(" +");
        if (answers.length != 1 && answers.length != calls.size()) {
            throw new AssertionError(calls.size() + " calls, " + answers.length + " answers: " + row);
        }
        for (int k = 0; k < calls.size(); k++) {
            make(calls.get(k), answers[answers.length == 1 ? 0 : k]);
        }
    }

    private static void spread(List<Call> calls, String name, String[] written, int[] chosen, int at) {
        if (at == written.length) {
            calls.add(new Call(name, chosen.clone()));
            return;
        }
        for (String choice : written[at].strip().split("\\|")) {
            String[] bounds = choice.split("\\.\\.");
            long most = number(bounds[bounds.length - 1]);
            for (long value = number(bounds[0]); value <= most; value++) {
                chosen[at] = (int) value;
                spread(calls, name, written, chosen, at + 1);
            }
        }
    }

    private static int number(String text) {
        return switch (text) {
            case "NONE" -> -1;
            case "MIN" -> Integer.MIN_VALUE;
            case "MAX" -> Integer.MAX_VALUE;
            default -> Integer.parseInt(text);
        };
    }

    private void make(Call call, String answer) {
        made++;
        if (made > MOST_CALLS) {
            throw new AssertionError("the test makes too many calls");
        }
        Object got = call.on(bus);
        if (answer.isEmpty()) {
            checks.due(call + " is taken", got instanceof Integer ? "taken" : got, "taken");
        } else if (answer.endsWith("Exception")) {
            checks.due(call.toString(), got, "throws." + answer);
            // After the last call of all there is nobody to ask whether it changed anything.
            if (made < MOST_CALLS) {
                changedNothing(call);
            }
            return;
        } else {
            checks.due(call.toString(), got, number(answer));
        }
        taken.add(call);
    }

    private void changedNothing(Call refused) {
        List<String> without = Portrait.after(taken, List.of());
        List<String> with = Portrait.after(taken, List.of(refused));
        for (int k = 0; k < without.size(); k++) {
            if (!with.get(k).equals(without.get(k))) {
                checks.due("after the refused " + refused, with.get(k), without.get(k));
                return;
            }
        }
        checks.due("refused " + refused + " changed nothing", with.size(), without.size());
    }
}
