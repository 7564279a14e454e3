/** Panels in states that several tests begin with, and a look at all that a panel tells. */
final class Panels {
    static final int NOTHING = 0;
    static final int SMOKE = 1;
    static final int HEAT = 2;
    static final int BUTTON = 3;
    static final int ISOLATOR = 4;

    private Panels() {
    }

    static Real atLevel2() {
        Real panel = new Real();
        panel.key(2468);
        return panel;
    }

    /** A button at this place, pressed: the zone is in fire with the next poll. */
    static void press(Real panel, int place, int zone) {
        panel.fit(place, BUTTON, zone, 1f);
        panel.reading(place, 1f);
    }

    static void write(Real panel, String text) {
        for (char c : text.toCharArray()) {
            panel.type(c);
        }
    }

    static int rule(Real panel, String text) {
        write(panel, text);
        return panel.rule();
    }

    static void poll(Real panel, int times) {
        for (int i = 0; i < times; i++) {
            panel.poll();
        }
    }

    static String entry(Real panel, int i) {
        return panel.log(i, 0) + " " + panel.log(i, 1) + " " + panel.log(i, 2);
    }

    static int entries(Real panel) {
        int entries = 0;
        while (!Due.answer(logCall(panel, entries)).startsWith("throws")) {
            entries++;
        }
        return entries;
    }

    private static Due.Call logCall(Real panel, int i) {
        return () -> panel.log(i, 0);
    }

    /** Everything that the questions of the face tell, as one text. */
    static String look(Face panel) {
        StringBuilder seen = new StringBuilder();
        for (int i = 0; i < 16; i++) {
            seen.append(panel.place(i)).append('/').append(panel.level(i)).append('/');
            seen.append(panel.base(i)).append(' ');
        }
        for (int i = 0; i < 4; i++) {
            seen.append("z").append(panel.zone(i)).append(' ');
        }
        for (int i = 0; i < 6; i++) {
            seen.append("o").append(panel.output(i)).append(' ');
        }
        for (int i = 0; i < 6; i++) {
            seen.append("c").append(panel.count(i)).append(' ');
        }
        for (int i = 0; i < panel.count(1); i++) {
            seen.append("h").append(panel.held(i)).append(' ');
        }
        for (int i = 0; i <= 16; i++) {
            int entry = i;
            for (int word = 0; word < 3; word++) {
                int asked = word;
                seen.append(Due.answer(() -> panel.log(entry, asked))).append(' ');
            }
        }
        return seen.toString();
    }
}
