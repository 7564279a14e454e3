import java.util.ArrayList;
import java.util.List;
import java.util.function.Function;

/**
 * A FirePanel that is called at most 512 times, as what later calls answer is free. It remembers what
 * may have changed it, so that a twin can be looked at without a call of its own.
 */
final class Real implements Face {
    private static final int CALLS = 512;

    private final FirePanel panel = new FirePanel();
    private final List<Function<FirePanel, Object>> steps = new ArrayList<>();
    private int calls = 0;

    /** A new panel that has been called in the same way, but for the questions that were answered. */
    Real twin() {
        Real twin = new Real();
        for (Function<FirePanel, Object> step : steps) {
            Due.answer(() -> twin.change(step));
        }
        return twin;
    }

    private void countCall() {
        calls++;
        if (calls > CALLS) {
            throw new AssertionError("this test calls one panel more than " + CALLS + " times");
        }
    }

    private Object change(Function<FirePanel, Object> call) {
        countCall();
        steps.add(call);
        return call.apply(panel);
    }

    private Object ask(Function<FirePanel, Object> question) {
        countCall();
        try {
            return question.apply(panel);
        } catch (RuntimeException e) {
            steps.add(question);
            throw e;
        }
    }

    private static Object nothing() {
        return "nothing";
    }

    public void fit(int place, int kind, int zone, float threshold) {
        change(p -> {
            p.fit(place, kind, zone, threshold);
            return nothing();
        });
    }

    public void need(int zone, int many) {
        change(p -> {
            p.need(zone, many);
            return nothing();
        });
    }

    public void wire(int wire, int how) {
        change(p -> {
            p.wire(wire, how);
            return nothing();
        });
    }

    public void reading(int place, float v) {
        change(p -> {
            p.reading(place, v);
            return nothing();
        });
    }

    public boolean type(char c) {
        return (boolean) change(p -> p.type(c));
    }

    public int rule() {
        return (int) change(FirePanel::rule);
    }

    public int forget() {
        return (int) change(FirePanel::forget);
    }

    public int poll() {
        return (int) change(FirePanel::poll);
    }

    public int key(int code) {
        return (int) change(p -> p.key(code));
    }

    public boolean silence() {
        return (boolean) change(FirePanel::silence);
    }

    public int reset() {
        return (int) change(FirePanel::reset);
    }

    public boolean off(boolean zone, int number, boolean off) {
        return (boolean) change(p -> p.off(zone, number, off));
    }

    public float level(int place) {
        return (float) ask(p -> p.level(place));
    }

    public float base(int place) {
        return (float) ask(p -> p.base(place));
    }

    public int place(int place) {
        return (int) ask(p -> p.place(place));
    }

    public int zone(int zone) {
        return (int) ask(p -> p.zone(zone));
    }

    public int output(int output) {
        return (int) ask(p -> p.output(output));
    }

    public int held(int rule) {
        return (int) ask(p -> p.held(rule));
    }

    public int log(int i, int word) {
        return (int) ask(p -> p.log(i, word));
    }

    public int count(int what) {
        return (int) ask(p -> p.count(what));
    }
}
