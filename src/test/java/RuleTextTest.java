/** Promises 6 and 7: the pad, and which texts are rules. */
public final class RuleTextTest {
    private static final String SIGNS = "0123456789zwf!()&|>:";

    public static void main(String[] args) {
        Due due = new Due();
        typeTakesSigns(due);
        typeStopsAtTwenty(due);
        rulesThatAre(due);
        rulesThatAreNot(due);
        depth(due);
        everyTextOfThree(due);
        padIsEmptyThen(due);
        oldTextsLeaveNothing(due);
        refuses(due);
        due.end();
    }

    private static void typeTakesSigns(Due due) {
        for (int c = 0; c <= Character.MAX_VALUE; c++) {
            Real panel = new Real();
            boolean taken = panel.type((char) c);
            boolean want = SIGNS.indexOf(c) >= 0;
            if (taken != want || panel.count(4) != (want ? 1 : 0)) {
                due.is("type of " + c, taken, want);
                due.is("pad behind type of " + c, panel.count(4), want ? 1 : 0);
            }
        }
    }

    private static void typeStopsAtTwenty(Due due) {
        Real panel = new Real();
        for (int i = 0; i < 20; i++) {
            due.is("type " + i, panel.type('f'), true);
        }
        due.is("type 20", panel.type('f'), false);
        due.is("type of a blank", panel.type(' '), false);
        due.is("the pad", panel.count(4), 20);
    }

    private static void dueRule(Due due, String text, int want) {
        Real panel = Panels.atLevel2();
        due.is("rule of " + text, Panels.rule(panel, text), want);
        due.is("rules behind " + text, panel.count(1), want == 0 ? 1 : 0);
        due.is("pad behind " + text, panel.count(4), 0);
    }

    private static void rulesThatAre(Due due) {
        String[] texts = {"f>0", "z0>5", "w3>1:0", "z3>2:9", "!f>0", "(f)>0", "z0&z1|w2>4:5", "!(z0|z1)&f>3",
            "((z0))>1", "(!z0)>1", "!!z0>1", "f&f&f&f&f&f&f&f>0:1", "f|!(f|!(f|f))>0:1", "!f&!f>0", "(f)&(f)>0"};
        for (String text : texts) {
            dueRule(due, text, 0);
        }
    }

    private static void rulesThatAreNot(Due due) {
        dueRule(due, "", 1);
        dueRule(due, "z", 2);
        dueRule(due, "z4>0", 2);
        dueRule(due, "w9", 2);
        dueRule(due, "zf>0", 2);
        dueRule(due, "z0", 3);
        dueRule(due, "z01>0", 3);
        dueRule(due, "z0>", 4);
        dueRule(due, "z0>6", 4);
        dueRule(due, "z0>f", 4);
        dueRule(due, "z0>12", 5);
        dueRule(due, "z0>1:", 6);
        dueRule(due, "z0>1:f", 6);
        dueRule(due, "z0>1:23", 7);
        dueRule(due, "z0>1:2:", 7);
        dueRule(due, "z0>1::", 6);
        dueRule(due, "z0>1>2", 5);
        dueRule(due, ">1", 1);
        dueRule(due, "5>1", 1);
        dueRule(due, ")>1", 1);
        dueRule(due, ":1", 1);
        dueRule(due, "&f>1", 1);
        dueRule(due, "f&", 3);
        dueRule(due, "f&>1", 3);
        dueRule(due, "f|&f>1", 3);
        dueRule(due, "ff>1", 2);
        dueRule(due, "f!f>1", 2);
        dueRule(due, "f(f)>1", 2);
        dueRule(due, "f)>1", 2);
        dueRule(due, "f:1", 2);
        dueRule(due, "()>1", 2);
        dueRule(due, "(f>1", 3);
        dueRule(due, "(f:1", 3);
        dueRule(due, "(f&f", 5);
        dueRule(due, "(f))>1", 4);
        dueRule(due, "!>1", 2);
        dueRule(due, "!", 2);
        dueRule(due, "!)f", 2);
        dueRule(due, "f&f&f&f&f&f&f&f&f&f&", 21);
        dueRule(due, "f&f&f&f&f&f&f&f&f&f>", 21);
        dueRule(due, "f&f&f&f&f&f&f&f&f>1:", 21);
    }

    private static void depth(Due due) {
        dueRule(due, "!!!!f>0", 0);
        dueRule(due, "!!!!z1>0", 0);
        dueRule(due, "((((w1))))>0", 0);
        dueRule(due, "!(!(f))>0", 0);
        dueRule(due, "!(!(f&!f))>0", 6 + 1);
        dueRule(due, "!!!!!f>0", 4 + 1);
        dueRule(due, "!!!!(f)>0", 4 + 1);
        dueRule(due, "(((((f)))))>0", 4 + 1);
        dueRule(due, "((((!f))))>0", 4 + 1);
        dueRule(due, "((((f&!f", 6 + 1);
        dueRule(due, "!!!!", 4 + 1);
        dueRule(due, "!!!!>0", 4 + 1);
        dueRule(due, "(((())))>0", 4 + 1);
        dueRule(due, "((((&f))))>0", 4 + 1);
        dueRule(due, "!!!f&!!!!f>0", 0);
        dueRule(due, "(((f)&!f)&!!f)&!f>0", 0);
        dueRule(due, "((!!f&!!!f))>0", 8 + 1);
        dueRule(due, "!!!!f&!!!!!f>0", 10 + 1);
    }

    /** The texts of three signs that are rules are just f, a > and an output; others stop early. */
    private static void everyTextOfThree(Due due) {
        for (char a : SIGNS.toCharArray()) {
            for (char b : SIGNS.toCharArray()) {
                for (char c : SIGNS.toCharArray()) {
                    String text = "" + a + b + c;
                    Real panel = Panels.atLevel2();
                    boolean is = text.matches("f>[0-5]");
                    if ((Panels.rule(panel, text) == 0) != is) {
                        due.is("whether " + text + " is a rule", !is, is);
                    }
                }
            }
        }
    }

    private static void padIsEmptyThen(Due due) {
        Real panel = Panels.atLevel2();
        due.is("a text with a fault", Panels.rule(panel, "f&z0&!(z1|w9)>3"), 12);
        due.is("the pad", panel.count(4), 0);
        due.is("a rule behind it", Panels.rule(panel, "z1>1"), 0);
        Panels.press(panel, 0, 1);
        panel.poll();
        due.is("nothing is left of the first", panel.output(1) + " " + panel.output(3), "3 0");
        due.is("a text too long for a rule", Panels.rule(panel, "f>0f>0"), 4);
        due.is("a delay", Panels.rule(panel, "f>0:7"), 0);
        due.is("no delay", Panels.rule(panel, "z1>0"), 0);
        panel.poll();
        due.is("the delay of another text", panel.output(0), 3);
    }

    private static void oldTextsLeaveNothing(Due due) {
        Real panel = Panels.atLevel2();
        Panels.press(panel, 0, 1);
        String[] faulty = {"z", "z1", "z1>", "z1>0:", "(z1", "!"};
        for (String text : faulty) {
            due.is("a long text", Panels.rule(panel, "z1>0:9&z1&!z1|z1&z2"), 7);
            due.is("then " + text, Panels.rule(panel, text), 1 + text.length());
        }
        for (int i = 0; i < 8; i++) {
            Panels.rule(panel, "f&f&f&f&f&f&f&f&f&f&");
        }
        due.is("a rule behind them", Panels.rule(panel, "z2|z1>0"), 0);
        panel.poll();
        due.is("its output", panel.output(0), 3);
        panel.forget();
        Panels.rule(panel, "z1>0:4");
        panel.forget();
        Panels.rule(panel, "z1>0");
        panel.poll();
        due.is("the delay of a forgotten rule", panel.output(0), 3);
    }

    private static void refuses(Due due) {
        Real panel = new Real();
        Panels.write(panel, "f>1");
        due.refused("rule at level 0", panel, IllegalStateException.class, panel::rule);
        panel.key(1357);
        due.refused("rule at level 1", panel, IllegalStateException.class, panel::rule);
        panel.key(2468);
        due.is("the pad stayed", panel.rule(), 0);
        for (int i = 1; i < 6; i++) {
            due.is("rule " + i, Panels.rule(panel, "f>1"), 0);
        }
        Panels.write(panel, "z1>2");
        due.refused("a seventh rule", panel, IllegalStateException.class, panel::rule);
        due.is("the pad", panel.count(4), 4);
        panel.forget();
        due.is("the same pad later", panel.rule(), 0);
        Panels.press(panel, 0, 1);
        panel.poll();
        due.is("its output", panel.output(2), 3);
        for (int i = 1; i < 6; i++) {
            Panels.rule(panel, "f>1");
        }
        due.refused("a seventh of no text", panel, IllegalStateException.class, panel::rule);
    }
}
