import java.util.Objects;

/** Compares answers with the ones that are due, prints those that differ, and ends the test. */
final class Due {
    interface Call {
        Object make();
    }

    private final String about;
    private int checked = 0;
    private int wrong = 0;

    Due() {
        this("");
    }

    /** What this tells stands in front of each line that is printed. */
    Due(String about) {
        this.about = about;
    }

    void is(String what, Object got, Object want) {
        checked++;
        if (!Objects.equals(got, want)) {
            wrong++;
            System.out.println(about + what + " answered " + got + ", due is " + want);
        }
    }

    boolean holds() {
        return wrong == 0 && checked != 0;
    }

    /** The call throws this very class, and the panel looks as it would without it. */
    void refused(String what, Real panel, Class<? extends RuntimeException> want, Runnable call) {
        String before = Panels.look(panel.twin());
        is(what, answer(() -> {
            call.run();
            return "nothing";
        }), "throws." + want.getSimpleName());
        is("the panel behind " + what, Panels.look(panel.twin()), before);
    }

    static String answer(Call call) {
        try {
            return String.valueOf(call.make());
        } catch (RuntimeException e) {
            return "throws." + e.getClass().getSimpleName();
        }
    }

    void end() {
        System.out.println(checked + " answers, " + wrong + " not as due");
        if (!holds()) {
            System.exit(1);
        }
    }
}
