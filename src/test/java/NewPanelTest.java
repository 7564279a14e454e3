/** Promise 1: what a new object tells. */
public final class NewPanelTest {
    public static void main(String[] args) {
        Due due = new Due();
        Real panel = new Real();
        for (int i = 0; i < 16; i++) {
            due.is("place " + i, panel.place(i), 1);
            due.is("level " + i, panel.level(i), 0f);
            due.is("base " + i, panel.base(i), 0f);
        }
        for (int i = 0; i < 4; i++) {
            due.is("zone " + i, panel.zone(i), 0);
        }
        for (int i = 0; i < 6; i++) {
            due.is("output " + i, panel.output(i), 0);
            due.is("count " + i, panel.count(i), 0);
        }
        due.is("the log", Panels.entries(panel), 0);
        due.is("held(0)", Due.answer(() -> panel.held(0)), "throws.NoSuchElementException");
        zonesNeedOne(due);
        readingsAreZero(due);
        panelsAreApart(due);
        due.end();
    }

    private static void zonesNeedOne(Due due) {
        for (int zone = 0; zone < 4; zone++) {
            Real panel = Panels.atLevel2();
            panel.fit(zone, Panels.HEAT, zone, 1f);
            panel.reading(zone, 200f);
            Panels.poll(panel, 2);
            due.is("poll for zone " + zone, panel.poll(), 1);
        }
    }

    private static void readingsAreZero(Due due) {
        Real panel = Panels.atLevel2();
        for (int i = 0; i < 16; i++) {
            panel.fit(i, Panels.BUTTON, 0, 1f);
        }
        due.is("poll of sixteen buttons", panel.poll(), 0);
    }

    private static void panelsAreApart(Due due) {
        Real used = Panels.atLevel2();
        Panels.press(used, 3, 1);
        Panels.rule(used, "z1>2");
        used.wire(5, 2);
        used.poll();
        due.is("another new panel", Panels.look(new Real()), Panels.look(new Real()));
        due.is("zone of another", new Real().zone(1), 0);
        due.is("place of another", new Real().place(3), 1);
    }
}
