import java.util.Random;

/** All promises: mixed runs of up to 512 calls, each answer compared with the model's. */
public final class ModelTest {
    private static final int RUNS = 8000;
    private static final int CALLS = 512;
    private static final int CALLS_OF_A_LOOK = 130;
    private static final String SIGNS = "zwf!()&|>:0123456789";
    private static final int[] ODD_NUMBERS = {-1, 4, 5, 6, 16, 17, Integer.MIN_VALUE, Integer.MAX_VALUE};
    private static final float[] ODD_FLOATS = {Float.NaN, Float.POSITIVE_INFINITY, Float.NEGATIVE_INFINITY,
        Float.MAX_VALUE, -0f, Float.MIN_VALUE, 0.49999997f, 0.5f, 100f, 100.00001f, -100f, -100.00001f, 200f};

    private interface Step {
        Object on(Face panel);
    }

    private final Random random;
    private final Due due;
    private final Face real = new Real();
    private final Face model = new Model();
    private String waiting = "";

    private ModelTest(long seed, Due due) {
        random = new Random(seed);
        this.due = due;
    }

    public static void main(String[] args) {
        Due due = new Due();
        for (int run = 0; run < RUNS; run++) {
            new ModelTest(run, due).run(run);
        }
        texts(due);
        due.end();
    }

    /** Most runs end early, to leave calls for a look; the others use all that a panel has. */
    private void run(int run) {
        boolean looks = run % 4 != 0;
        int end = looks ? 17 + random.nextInt(CALLS - CALLS_OF_A_LOOK - 17) : CALLS;
        same(run, 0, p -> p.key(2468));
        for (int place = 0; place < 16; place++) {
            int kind = random.nextInt(5);
            int zone = random.nextInt(4);
            float threshold = 0.5f + random.nextInt(40);
            int at = place;
            same(run, 1 + place, p -> nothing(() -> p.fit(at, kind, zone, threshold)));
        }
        for (int call = 17; call < end; call++) {
            same(run, call, next());
        }
        if (looks) {
            due.is("run " + run + " at call " + end, Panels.look(real), Panels.look(model));
        }
    }

    private void same(int run, int call, Step step) {
        String got = Due.answer(() -> step.on(real));
        String want = Due.answer(() -> step.on(model));
        due.is("run " + run + ", call " + call, got, want);
    }

    private static Object nothing(Runnable call) {
        call.run();
        return "nothing";
    }

    private int number(int bound) {
        return random.nextInt(25) == 0 ? ODD_NUMBERS[random.nextInt(ODD_NUMBERS.length)] : random.nextInt(bound);
    }

    private float value(float least, float most) {
        if (random.nextInt(25) == 0) {
            return ODD_FLOATS[random.nextInt(ODD_FLOATS.length)];
        }
        float value = least + random.nextFloat() * (most - least);
        return random.nextBoolean() ? Math.round(value) : value;
    }

    private Step next() {
        if (!waiting.isEmpty()) {
            return typeOrRule();
        }
        int a = number(16);
        int zone = number(4);
        int small = number(6);
        boolean either = random.nextBoolean();
        float v = value(-20f, 90f);
        switch (random.nextInt(40)) {
            case 0: return p -> nothing(() -> p.fit(a, small, zone, v));
            case 1: return p -> nothing(() -> p.need(zone, small));
            case 2: case 3: return wire();
            case 4: case 5: case 6: case 7: case 8: return p -> nothing(() -> p.reading(a, v));
            case 9: case 10: waiting = text(random) + '#'; return typeOrRule();
            case 11: return random.nextInt(6) == 0 ? Face::forget : Face::poll;
            case 12: return random.nextInt(3) == 0 ? Face::reset : Face::poll;
            case 13: return Face::silence;
            case 14: return p -> p.off(true, zone, switchedOff(a));
            case 15: return p -> p.off(false, a, switchedOff(zone));
            case 16: return key();
            case 17: return p -> p.level(a);
            case 18: return p -> p.base(a);
            case 19: return p -> p.place(a);
            case 20: return p -> p.zone(zone);
            case 21: return p -> p.output(small);
            case 22: return p -> p.held(small);
            case 23: return p -> p.log(a, small);
            case 24: return p -> p.count(small);
            case 25: return Face::rule;
            case 26: return p -> p.type(either ? (char) a : (char) (a * 4099 + small));
            default: return Face::poll;
        }
    }

    /** Off more seldom than on, so that most of a panel goes on working. */
    private static boolean switchedOff(int number) {
        return number % 3 == 1;
    }

    private Step wire() {
        int wire = number(17);
        int how = random.nextInt(3) > 0 ? 0 : number(3);
        return p -> nothing(() -> p.wire(wire, how));
    }

    private Step key() {
        int code = random.nextInt(4) == 0 ? random.nextInt() : random.nextInt(4) == 0 ? 1357 : 2468;
        return p -> p.key(code);
    }

    private Step typeOrRule() {
        char c = waiting.charAt(0);
        waiting = waiting.substring(1);
        return c == '#' ? Face::rule : p -> p.type(c);
    }

    /** Mostly a rule, sometimes with a sign changed, cut off or put in. */
    private static String text(Random random) {
        StringBuilder text = new StringBuilder(condition(random, random.nextInt(4)));
        text.append('>').append(random.nextInt(6));
        if (random.nextBoolean()) {
            text.append(':').append(random.nextInt(4));
        }
        char sign = SIGNS.charAt(random.nextInt(SIGNS.length()));
        switch (random.nextInt(6)) {
            case 0 -> text.setCharAt(random.nextInt(text.length()), sign);
            case 1 -> text.setLength(random.nextInt(text.length()));
            case 2 -> text.insert(random.nextInt(text.length() + 1), sign);
            default -> { }
        }
        return text.toString();
    }

    private static String condition(Random random, int more) {
        StringBuilder text = new StringBuilder(term(random, more));
        for (int i = random.nextInt(3); i > 0; i--) {
            text.append(random.nextBoolean() ? '&' : '|').append(term(random, more - 1));
        }
        return text.toString();
    }

    private static String term(Random random, int more) {
        int zone = random.nextInt(4);
        return switch (random.nextInt(more > 0 ? 6 : 3)) {
            case 0 -> "z" + zone;
            case 1 -> "w" + zone;
            case 2 -> "f";
            case 3, 4 -> "!" + term(random, more);
            default -> "(" + condition(random, more - 1) + ")";
        };
    }

    /** Many texts by themselves, as the fault has the most edges. */
    private static void texts(Due due) {
        Random random = new Random(7);
        for (int i = 0; i < 40000; i++) {
            String text = text(random);
            if (text.length() <= 20) {
                Real panel = Panels.atLevel2();
                due.is("rule of " + text, Panels.rule(panel, text), 1 + Model.faultOf(text));
            }
        }
    }
}
