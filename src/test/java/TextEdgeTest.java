/** Terms of the rules' text, promises 6 and 7: each sentence with its edges. */
public final class TextEdgeTest {
    private static final String SIGNS = "zwf!()&|>:0123456789";

    public static void main(String[] args) {
        Sentences.end(type(), rule(), parts(), depth(), fault());
    }

    private static Sentences type() {
        return new Sentences("Promise 6")
                .holds("Puts a character behind the pad's text: true", "each of those that stand in rules",
                        TextEdgeTest::eachSign)
                .holds("Puts a character behind the pad's text: true", "at each level, and not logged",
                        TextEdgeTest::typeAtEachLevel)
                .holds("Puts a character behind the pad's text: true", "in the order of the calls",
                        TextEdgeTest::typeInOrder)
                .holds("refused with false when it is none of those that stand in rules", "all other characters",
                        TextEdgeTest::noSign)
                .holds("refused with false when it is none of those that stand in rules", "the pad stays",
                        TextEdgeTest::refusedTypeChangesNothing)
                .holds("No blanks.", "blanks of each sort", TextEdgeTest::noBlanks)
                .holds("or 20 are there", "the twentieth and the one behind it", TextEdgeTest::twentyAndMore)
                .holds("or 20 are there", "the full pad is a rule", TextEdgeTest::fullPadIsARule);
    }

    private static Sentences rule() {
        return new Sentences("Promise 7")
                .holds("The pad's text becomes a rule behind the others (HELD 0): 0", "behind the others",
                        TextEdgeTest::behindTheOthers)
                .holds("The pad's text becomes a rule behind the others (HELD 0): 0", "HELD 0",
                        TextEdgeTest::heldIsZero)
                .holds("or 1 + the fault, and no rule is made", "with and without rules", TextEdgeTest::noRuleIsMade)
                .holds("The pad is empty then.", "behind a rule", TextEdgeTest::emptyBehindRule)
                .holds("The pad is empty then.", "behind a fault", TextEdgeTest::emptyBehindFault)
                .holds("The pad is empty then.", "nothing of an older text is read", TextEdgeTest::olderText)
                .holds("The pad's text becomes a rule behind the others (HELD 0): 0",
                        "nothing of an older rule or fault is in it", TextEdgeTest::olderRule)
                .holds("IllegalStateException: LEVEL 2", "levels 0 and 1", TextEdgeTest::ruleBelowLevelTwo)
                .holds("or there are 6 rules (the pad stays)", "the sixth and the seventh", TextEdgeTest::seventhRule)
                .holds("or there are 6 rules (the pad stays)", "whatever the pad holds", TextEdgeTest::seventhOfAnyText)
                .holds("or there are 6 rules (the pad stays)", "room again behind forget()",
                        TextEdgeTest::roomBehindForget)
                .holds("RULES, at most 6", "a fault takes no room", TextEdgeTest::faultTakesNoRoom);
    }

    private static Sentences parts() {
        return new Sentences("Promise 7 (Terms, the rules)")
                .holds("an output 0 .. 5", "the first and the last", TextEdgeTest::outputs)
                .holds("an output 0 .. 5", "too large", TextEdgeTest::outputTooLarge)
                .holds("and perhaps : and a delay 0 .. 9 (0 without)", "the least and the most", TextEdgeTest::delays)
                .holds("and perhaps : and a delay 0 .. 9 (0 without)", "none, and two digits",
                        TextEdgeTest::delayOfOneDigit)
                .holds("z and a zone", "0 .. 3, and too large", TextEdgeTest::zonesOfFire)
                .holds("w and a zone", "0 .. 3, and too large", TextEdgeTest::zonesOfWarning)
                .holds("f (a device is at fault)", "without a zone", TextEdgeTest::faultWithoutZone)
                .holds("terms with & or | between", "one term, and as many as there is room for",
                        TextEdgeTest::oneTermAndMany)
                .holds("terms with & or | between", "none at the ends, not two", TextEdgeTest::betweenAlone)
                .holds("! term", "behind !", TextEdgeTest::behindNot)
                .holds("( condition )", "empty, open, closed twice", TextEdgeTest::brackets);
    }

    private static Sentences depth() {
        return new Sentences("Promise 7 (Terms, the rules)")
                .holds("! and ( can't stand where the term is 4 deep", "behind four of !", TextEdgeTest::fourNots)
                .holds("! and ( can't stand where the term is 4 deep", "in four of (", TextEdgeTest::fourBrackets)
                .holds("! and ( can't stand where the term is 4 deep", "both of them mixed", TextEdgeTest::mixedDepth)
                .holds("A term behind ! or in ( ) is one DEEPER than what it belongs to", "each term in ( )",
                        TextEdgeTest::eachTermInBrackets)
                .holds("the others 0 deep", "behind a deep one", TextEdgeTest::behindADeepOne);
    }

    private static Sentences fault() {
        return new Sentences("Promise 7 (Terms, the fault)")
                .holds("how many characters stand before the first one that can't stand where it does", "at 0",
                        TextEdgeTest::faultAtFirst)
                .holds("how many characters stand before the first one that can't stand where it does",
                        "at each place of a rule", TextEdgeTest::faultAtEachPlace)
                .holds("how many characters stand before the first one that can't stand where it does",
                        "the first of several", TextEdgeTest::firstOfSeveral)
                .holds("how many characters stand before the first one that can't stand where it does",
                        "behind a whole rule", TextEdgeTest::behindAWholeRule)
                .holds("or how many there are, if only something behind them is missing", "an empty pad",
                        TextEdgeTest::emptyPad)
                .holds("or how many there are, if only something behind them is missing", "each beginning of a rule",
                        TextEdgeTest::eachBeginning)
                .holds("or how many there are, if only something behind them is missing", "a full pad",
                        TextEdgeTest::fullPadThatLacks);
    }

    private static int ruleOf(String text) {
        return Panels.rule(Panels.atLevel2(), text);
    }

    private static void dueRule(Due due, String... texts) {
        for (String text : texts) {
            due.is("rule() of " + text, ruleOf(text), 0);
        }
    }

    private static void dueFault(Due due, int fault, String... texts) {
        for (String text : texts) {
            due.is("rule() of \"" + text + "\"", ruleOf(text), 1 + fault);
        }
    }

    private static void eachSign(Due due) {
        for (char c : SIGNS.toCharArray()) {
            Real panel = new Real();
            due.is("type('" + c + "')", panel.type(c), true);
            due.is("count(4)", panel.count(4), 1);
        }
    }

    private static void typeAtEachLevel(Due due) {
        Real panel = new Real();
        for (int code : new int[] {0, 1357, 2468}) {
            panel.key(code);
            due.is("type('f') behind key(" + code + ")", panel.type('f'), true);
        }
        due.is("count(4)", panel.count(4), 3);
        due.is("entries", Panels.entries(panel), 0);
    }

    private static void typeInOrder(Due due) {
        Real panel = Panels.atLevel2();
        for (char c : "z1>4:3".toCharArray()) {
            panel.type(c);
        }
        due.is("rule()", panel.rule(), 0);
        Panels.press(panel, 0, 1);
        Panels.poll(panel, 3);
        due.is("output(4) of poll 3", panel.output(4), 0);
        panel.poll();
        due.is("output(4) of poll 4", panel.output(4), 3);
    }

    private static void noSign(Due due) {
        Real panel = new Real();
        int taken = 0;
        for (int c = 0; c <= Character.MAX_VALUE; c++) {
            if (c % 250 == 0) {
                panel = new Real();
            }
            if (SIGNS.indexOf(c) < 0 && (panel.type((char) c) || panel.count(4) != 0)) {
                taken++;
                due.is("type of character " + c, true, false);
            }
        }
        due.is("characters taken beside the signs", taken, 0);
    }

    private static void refusedTypeChangesNothing(Due due) {
        Real panel = Panels.atLevel2();
        for (char c : "zx1 Z>A4;".toCharArray()) {
            panel.type(c);
        }
        due.is("count(4)", panel.count(4), 4);
        due.is("rule() of z1>4", panel.rule(), 0);
    }

    private static void noBlanks(Due due) {
        Real panel = new Real();
        for (char c : new char[] {' ', '\t', '\n', '\r', 0, 0xA0}) {
            due.is("type of character " + (int) c, panel.type(c), false);
        }
        due.is("count(4)", panel.count(4), 0);
    }

    private static void twentyAndMore(Due due) {
        Real panel = new Real();
        for (int i = 1; i <= 20; i++) {
            due.is("type " + i, panel.type('!'), true);
            due.is("count(4)", panel.count(4), i);
        }
        for (char c : "!f0>x".toCharArray()) {
            due.is("type('" + c + "') behind 20", panel.type(c), false);
        }
        due.is("count(4)", panel.count(4), 20);
    }

    private static void fullPadIsARule(Due due) {
        Real panel = Panels.atLevel2();
        Panels.write(panel, "f|f|f|f|f|f|f|z1>3:1");
        due.is("count(4)", panel.count(4), 20);
        panel.type('0');
        due.is("rule()", panel.rule(), 0);
        Panels.press(panel, 0, 1);
        Panels.poll(panel, 2);
        due.is("output(3)", panel.output(3), 3);
    }

    private static void behindTheOthers(Due due) {
        Real panel = Panels.atLevel2();
        Panels.rule(panel, "z1>3");
        Panels.rule(panel, "z2>4");
        due.is("count(1)", panel.count(1), 2);
        Panels.press(panel, 0, 1);
        panel.poll();
        due.is("held(0) and held(1)", panel.held(0) + " " + panel.held(1), "1 0");
        Panels.rule(panel, "!z2>5");
        Panels.poll(panel, 2);
        due.is("all three", panel.held(0) + " " + panel.held(1) + " " + panel.held(2), "3 0 2");
    }

    private static void heldIsZero(Due due) {
        Real panel = Panels.atLevel2();
        Panels.rule(panel, "!f>3");
        Panels.poll(panel, 5);
        panel.forget();
        Panels.rule(panel, "!f>3");
        due.is("held(0)", panel.held(0), 0);
        due.is("output(3)", panel.output(3), 0);
    }

    private static void noRuleIsMade(Due due) {
        Real panel = Panels.atLevel2();
        Panels.rule(panel, "z9>3");
        due.is("count(1)", panel.count(1), 0);
        due.is("held(0)", Due.answer(() -> panel.held(0)), "throws.NoSuchElementException");
        Panels.rule(panel, "!f>3");
        Panels.poll(panel, 2);
        Panels.rule(panel, "!f>4:");
        due.is("count(1)", panel.count(1), 1);
        due.is("held(0)", panel.held(0), 2);
        panel.poll();
        due.is("output(4)", panel.output(4), 0);
        due.is("output(3)", panel.output(3), 3);
    }

    private static void emptyBehindRule(Due due) {
        Real panel = Panels.atLevel2();
        due.is("rule()", Panels.rule(panel, "f>1"), 0);
        due.is("count(4)", panel.count(4), 0);
        due.is("rule() at once", panel.rule(), 1);
        due.is("rule() of a text anew", Panels.rule(panel, "z1>1"), 0);
    }

    private static void emptyBehindFault(Due due) {
        Real panel = Panels.atLevel2();
        due.is("rule()", Panels.rule(panel, "f>1&f"), 4);
        due.is("count(4)", panel.count(4), 0);
        due.is("rule() at once", panel.rule(), 1);
        due.is("rule() of a text anew", Panels.rule(panel, "z1>1"), 0);
    }

    private static void olderText(Due due) {
        String older = "!(z0&w3)|f>5:9";
        for (int i = 0; i < older.length(); i++) {
            Real panel = Panels.atLevel2();
            due.is("rule() of the older text", Panels.rule(panel, older), 0);
            String text = older.substring(0, i);
            due.is("rule() of " + text, Panels.rule(panel, text), text.endsWith(">5") ? 0 : 1 + i);
        }
    }

    private static void olderRule(Due due) {
        Real panel = Panels.atLevel2();
        for (int i = 0; i < 4; i++) {
            due.is("rule() with a fault", Panels.rule(panel, "f|f|f|f|f|f|f|f|f>3:"), 21);
            due.is("rule() with a delay", Panels.rule(panel, "f|f|f|f|f|f|f|f>3:9"), 0);
            panel.forget();
        }
        due.is("rule()", Panels.rule(panel, "f|!f>4"), 0);
        due.is("rule()", Panels.rule(panel, "f&!f>5"), 0);
        panel.poll();
        due.is("outputs 3, 4 and 5", panel.output(3) + " " + panel.output(4) + " " + panel.output(5), "0 3 0");
    }

    private static void ruleBelowLevelTwo(Due due) {
        Real panel = new Real();
        Panels.write(panel, "z1>4");
        due.refused("rule() at level 0", panel, Sentences.STATE, panel::rule);
        panel.key(1357);
        due.refused("rule() at level 1", panel, Sentences.STATE, panel::rule);
        due.is("count(4)", panel.count(4), 4);
        panel.key(2468);
        due.is("rule() at level 2, of the same text", panel.rule(), 0);
    }

    private static Real withRules(int many) {
        Real panel = Panels.atLevel2();
        for (int i = 0; i < many; i++) {
            Panels.rule(panel, "z3>" + i);
        }
        return panel;
    }

    private static void seventhRule(Due due) {
        Real panel = withRules(5);
        due.is("the sixth rule()", Panels.rule(panel, "f>1"), 0);
        due.is("count(1)", panel.count(1), 6);
        Panels.write(panel, "f>1:2");
        due.refused("the seventh rule()", panel, Sentences.STATE, panel::rule);
        due.is("count(4)", panel.count(4), 5);
        due.is("count(1)", panel.count(1), 6);
    }

    private static void seventhOfAnyText(Due due) {
        Real panel = withRules(6);
        due.refused("rule() of an empty pad", panel, Sentences.STATE, panel::rule);
        Panels.write(panel, "f>9");
        due.refused("rule() of a text with a fault", panel, Sentences.STATE, panel::rule);
        due.is("count(4)", panel.count(4), 3);
        panel.key(1357);
        due.refused("rule() at level 1", panel, Sentences.STATE, panel::rule);
    }

    private static void roomBehindForget(Due due) {
        Real panel = withRules(6);
        Panels.write(panel, "z1>4");
        due.refused("the seventh rule()", panel, Sentences.STATE, panel::rule);
        panel.forget();
        due.is("rule() of the pad that stayed", panel.rule(), 0);
        Panels.press(panel, 0, 1);
        panel.poll();
        due.is("output(4)", panel.output(4), 3);
        for (int i = 1; i < 6; i++) {
            due.is("rule() " + i, Panels.rule(panel, "f>1"), 0);
        }
        due.refused("the seventh rule() again", panel, Sentences.STATE, panel::rule);
    }

    private static void faultTakesNoRoom(Due due) {
        Real panel = withRules(5);
        for (int i = 0; i < 7; i++) {
            due.is("rule() with a fault", Panels.rule(panel, "z4>0"), 2);
        }
        due.is("the sixth rule()", Panels.rule(panel, "f>1"), 0);
    }

    private static void outputs(Due due) {
        for (int output = 0; output <= 5; output++) {
            Real panel = Panels.atLevel2();
            due.is("rule() of !f>" + output, Panels.rule(panel, "!f>" + output), 0);
            panel.poll();
            for (int i = 0; i <= 5; i++) {
                due.is("output(" + i + ") of !f>" + output, panel.output(i), i == output ? 3 : 0);
            }
        }
    }

    private static void outputTooLarge(Due due) {
        dueFault(due, 2, "f>6", "f>7", "f>8", "f>9", "f>6:1", "f>");
        dueFault(due, 3, "f>10", "f>05", "f>55");
    }

    private static void delays(Due due) {
        for (int delay = 0; delay <= 9; delay++) {
            Real panel = Panels.atLevel2();
            due.is("rule() of !f>3:" + delay, Panels.rule(panel, "!f>3:" + delay), 0);
            for (int poll = 1; poll <= 11; poll++) {
                panel.poll();
                due.is("output(3) of poll " + poll + ", delay " + delay, panel.output(3), poll > delay ? 3 : 0);
            }
        }
    }

    private static void delayOfOneDigit(Due due) {
        Real panel = Panels.atLevel2();
        Panels.rule(panel, "!f>3");
        panel.poll();
        due.is("output(3) without a delay", panel.output(3), 3);
        dueFault(due, 4, "f>3:", "f>3::", "f>3:f");
        dueFault(due, 5, "f>3:10", "f>3:00", "f>3:1:");
        dueFault(due, 3, "f>39");
    }

    private static void zonesOfFire(Due due) {
        dueRule(due, "z0>0", "z1>0", "z2>0", "z3>0");
        dueFault(due, 1, "z4>0", "z5>0", "z9>0", "z>0", "z", "zz", "z(");
        dueFault(due, 2, "z00>0", "z3z");
    }

    private static void zonesOfWarning(Due due) {
        dueRule(due, "w0>0", "w1>0", "w2>0", "w3>0");
        dueFault(due, 1, "w4>0", "w5>0", "w9>0", "w>0", "w", "ww", "w!");
        dueFault(due, 2, "w00>0", "w3w");
    }

    private static void faultWithoutZone(Due due) {
        dueRule(due, "f>0");
        dueFault(due, 1, "f0>0", "f3>0", "ff>0");
    }

    private static void oneTermAndMany(Due due) {
        dueRule(due, "f>0", "f&f>0", "f|f>0", "f&f|f&f|f&f|f&f|f>0", "z0&w1|f&!z2|(w3)>0:1");
    }

    private static void betweenAlone(Due due) {
        dueFault(due, 0, "&f>0", "|f>0");
        dueFault(due, 2, "f&>0", "f|>0", "f&&f>0", "f||f>0", "f&|f>0", "f&)");
        dueFault(due, 1, "fz0>0", "f!f>0", "f(f)>0");
    }

    private static void behindNot(Due due) {
        dueRule(due, "!f>0", "!z0>0", "!w3>0", "!(f)>0", "!!f>0", "f&!f>0");
        dueFault(due, 1, "!>0", "!&f>0", "!)>0", "!0>0", "!:0");
        dueFault(due, 1, "z!0>0", "f!>0");
    }

    private static void brackets(Due due) {
        dueRule(due, "(f)>0", "(f&f)>0", "(f)&(f)>0", "((f)|f)>0");
        dueFault(due, 1, "()>0", "(>0", "(&f)>0", "f)>0");
        dueFault(due, 2, "(f>0", "(f:0");
        dueFault(due, 3, "(f))>0", "(f)f>0", "(f)(f)>0", "(f)!f>0", "(f)0>0");
        dueFault(due, 3, "(f&)>0", "(f|>0");
    }

    private static void fourNots(Due due) {
        dueRule(due, "!!!!f>0", "!!!!z3>0", "!!!!w0>0");
        dueFault(due, 4, "!!!!!f>0", "!!!!(f)>0", "!!!!>0", "!!!!", "!!!!!");
    }

    private static void fourBrackets(Due due) {
        dueRule(due, "((((f))))>0", "((((z3&w0))))>0:1");
        dueFault(due, 4, "(((((f)))))>0", "((((!f))))>0", "(((()", "(((((");
    }

    private static void mixedDepth(Due due) {
        dueRule(due, "!(!(f))>0", "(!(!f))>0", "!!((f))>0", "((!!f))>0");
        dueFault(due, 4, "!(!(!f))>0", "(!(!(f)))>0", "!!((!f))>0", "((!!(f)))>0");
    }

    private static void eachTermInBrackets(Due due) {
        dueRule(due, "(f&!!!f)>0", "((f)|((!f)))>0", "(((f&!f|!f)))>0");
        dueFault(due, 6, "(f&!!!!f)>0", "((((f|(f");
        dueFault(due, 8, "(((f&f&!!f)))>0");
    }

    private static void behindADeepOne(Due due) {
        dueRule(due, "!!!!f&!!!!f>0", "((((f))))&!f>0", "((((f))))|((f))>0", "(!!!f&!!!f)>0");
        dueFault(due, 10, "!!!!f&!!!!!f>0", "!!!!f|!!!!(f)>0");
        dueFault(due, 9, "(!!!f&!!!!f)>0", "(!!!f|!!!(f))>0");
    }

    private static void faultAtFirst(Due due) {
        dueFault(due, 0, ">0", ":0", ")", "&", "|", "0", "3>0", "9", ")f>0");
    }

    /** In place of each character of a rule, one that can stand nowhere near it. */
    private static void faultAtEachPlace(Due due) {
        String text = "!(z0&w3)|f>5:9";
        String wrong = ":>)!z:z(1)9)z)";
        dueRule(due, text);
        for (int i = 0; i < text.length(); i++) {
            StringBuilder changed = new StringBuilder(text);
            changed.setCharAt(i, wrong.charAt(i));
            dueFault(due, i, changed.toString(), changed.substring(0, i + 1));
        }
    }

    private static void firstOfSeveral(Due due) {
        dueFault(due, 1, "z9&w9>9:f");
        dueFault(due, 3, "z0&)&w9>9");
        dueFault(due, 4, "z0&!0(((((");
    }

    private static void behindAWholeRule(Due due) {
        for (char c : SIGNS.toCharArray()) {
            if (c != ':') {
                dueFault(due, 3, "f>0" + c, "f>0" + c + "f");
            }
            dueFault(due, 5, "f>0:0" + c);
        }
    }

    private static void emptyPad(Due due) {
        Real panel = Panels.atLevel2();
        due.is("rule()", panel.rule(), 1);
        due.is("count(1)", panel.count(1), 0);
        due.is("entries", Panels.entries(panel), 0);
    }

    private static void eachBeginning(Due due) {
        String text = "!(z0&w3)|f>5:9";
        for (int i = 0; i < text.length(); i++) {
            boolean whole = text.substring(0, i).endsWith(">5");
            due.is("rule() of \"" + text.substring(0, i) + "\"", ruleOf(text.substring(0, i)), whole ? 0 : 1 + i);
        }
    }

    private static void fullPadThatLacks(Due due) {
        dueFault(due, 20, "f&f&f&f&f&f&f&f&f&f&", "f&f&f&f&f&f&f&f&f&f>", "f&f&f&f&f&f&f&f&f>1:",
                "z0&z0&z0&z0&z0&z0|z0", "(f&f&f&f&f&f&f&f&f&f", "f&f&f&f&f&f&f&f&f&!(");
        dueFault(due, 19, "f&f&f&f&f&f&f&f&f&f)", "f&f&f&f&f&f&f&f&f&ff", "f&f&f&f&f&f&f&f&f>1)");
    }
}
