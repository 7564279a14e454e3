import java.util.Objects;

/** Compares answers with the ones that are due, prints those that differ, and ends the test. */
final class Due {
    interface Call {
        Object make();
    }

    private int checked = 0;
    private int wrong = 0;

    void is(String what, Object got, Object want) {
        checked++;
        if (!Objects.equals(got, want)) {
            wrong++;
            System.out.println(what + " answered " + got + ", due is " + want);
        }
    }

    /** The call throws this very class, and the panel looks as before. */
    void refused(String what, FirePanel panel, Class<? extends RuntimeException> want, Runnable call) {
        String before = Panels.look(panel);
        is(what, answer(() -> {
            call.run();
            return "nothing";
        }), "throws." + want.getSimpleName());
        is("the panel behind " + what, Panels.look(panel), before);
    }

    static String answer(Call call) {
        try {
            return String.valueOf(call.make());
        } catch (RuntimeException e) {
            return "throws." + e.getClass().getSimpleName();
        }
    }

    void end() {
        System.out.println(checked + " answers, " + wrong + " not as due");
        if (wrong != 0 || checked == 0) {
            System.exit(1);
        }
    }
}
