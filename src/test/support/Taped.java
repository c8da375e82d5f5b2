import java.util.ArrayList;
import java.util.List;

/** A new object of the program, and what it was called and answered. What it answers after its 512th call is free. */
final class Taped {
    private static final int MOST_CALLS = 512;

    private final FacetFigures x = new FacetFigures();
    private final List<Call> calls = new ArrayList<>();
    private final List<Long> answers = new ArrayList<>();

    /** A test that needs more than 512 calls would ask for what the document does not promise. */
    long make(Call call) {
        if (calls.size() >= MOST_CALLS) {
            throw new IllegalStateException("more than 512 calls on one object: " + call);
        }
        long answer = call.on(x);
        calls.add(call);
        answers.add(answer);
        return answer;
    }

    /** The call's answer; 0 without the call if 512 were made. */
    long makeIfAllowed(String name, int... args) {
        return calls.size() < MOST_CALLS ? make(new Call(name, args)) : 0;
    }

    void makeAll(List<Call> all) {
        all.forEach(this::make);
    }

    List<Call> callsSoFar() {
        return new ArrayList<>(calls);
    }

    /** The calls from a place on, each with its answer. */
    List<String> tapeFrom(int first) {
        List<String> tape = new ArrayList<>();
        for (int k = first; k < calls.size(); k++) {
            tape.add(calls.get(k) + " = " + answers.get(k));
        }
        return tape;
    }
}
