import java.util.NoSuchElementException;

/**
 * A fire panel with a ring of places that it asks from both ends, zones, rules read from text that
 * drive outputs, keys for three levels, and a log. The promises are those of ../shared/DOC.md.
 */
public final class FirePanel {
    public static final int NONE = -1;

    private static final int PLACES = 16;
    private static final int WIRES = 17;
    private static final int ZONES = 4;
    private static final int MOST_NEEDED = 4;
    private static final int OUTPUTS = 6;
    private static final int SOUNDERS = 3;
    private static final int RULES = 6;
    private static final int PAD_LENGTH = 20;
    private static final int DELAYS = 10;
    private static final int DEEPEST = 4;

    private static final int SMOKE = 1;
    private static final int HEAT = 2;
    private static final int BUTTON = 3;
    private static final int ISOLATOR = 4;

    private static final int WHOLE = 0;
    private static final int SHORT = 2;

    private static final int OVER_FOR_ALARM = 3;
    private static final int MISSED_FOR_FAULT = 2;

    private static final int USER_CODE = 1357;
    private static final int ENGINEER_CODE = 2468;
    private static final int USER = 1;
    private static final int ENGINEER = 2;

    private static final int LOG_ENTRIES = 16;
    private static final int LOG_WORDS = 3;
    private static final int LOG_FIRE = 1;
    private static final int LOG_FAULT = 2;
    private static final int LOG_FAULT_GONE = 3;
    private static final int LOG_OUTPUT = 4;
    private static final int LOG_SILENCE = 5;
    private static final int LOG_RESET = 6;
    private static final int LOG_SWITCHED = 7;
    private static final int LOG_PLACE_FROM = 10;

    // A rule's steps: below STEP_NOT, a step names the bit of the facts that it asks for.
    private static final int FACT_FIRE = 0;
    private static final int FACT_WARNING = 4;
    private static final int FACT_FAULT = 8;
    private static final int STEP_NOT = 9;
    private static final int STEP_AND = 10;
    private static final int STEP_OR = 11;

    private final Ring ring;
    private final Zone[] zones;
    private final Rule[] rules;
    private final boolean[] outputsOn;
    private final Pad pad;
    private final Log entries;
    private int ruleCount;
    private int polls;
    private int entered;
    private boolean silent;

    public FirePanel() {
        ring = new Ring();
        zones = new Zone[ZONES];
        for (int i = 0; i < ZONES; i++) {
            zones[i] = new Zone();
        }
        rules = new Rule[RULES];
        for (int i = 0; i < RULES; i++) {
            rules[i] = new Rule();
        }
        outputsOn = new boolean[OUTPUTS];
        pad = new Pad();
        entries = new Log();
    }

    public void fit(int place, int kind, int zone, float threshold)
            throws NoSuchElementException, IllegalArgumentException, IllegalStateException {
        mustExist(place, PLACES);
        mustExist(zone, ZONES);
        mustBeAllowed(kind >= 0 && kind <= ISOLATOR);
        // Asked this way round, because NaN lies in no range.
        mustBeAllowed(threshold >= 0.5f && threshold <= 100f);
        mustHaveEntered(ENGINEER);
        ring.places[place].begin(kind, zone, threshold);
    }

    public void need(int zone, int many)
            throws NoSuchElementException, IllegalArgumentException, IllegalStateException {
        mustExist(zone, ZONES);
        mustBeAllowed(many >= 1 && many <= MOST_NEEDED);
        mustHaveEntered(ENGINEER);
        zones[zone].needed = many;
    }

    public void wire(int wire, int how) throws NoSuchElementException, IllegalArgumentException {
        mustExist(wire, WIRES);
        mustBeAllowed(how >= WHOLE && how <= SHORT);
        ring.wires[wire] = how;
    }

    public void reading(int place, float v) throws NoSuchElementException, IllegalArgumentException {
        mustExist(place, PLACES);
        mustBeAllowed(v >= -100f && v <= 200f);
        ring.places[place].reading = v;
    }

    public boolean type(char c) {
        return pad.append(c);
    }

    public int rule() throws IllegalStateException {
        mustHaveEntered(ENGINEER);
        if (ruleCount < 0 || ruleCount >= RULES) {
            throw new IllegalStateException("no room for one more rule");
        }
        // The next free row may be spoilt by a text with a fault: it counts only once it is whole.
        int fault = pad.readInto(rules[ruleCount]);
        pad.length = 0;
        if (fault != NONE) {
            return 1 + fault;
        }
        ruleCount++;
        return 0;
    }

    public int forget() throws IllegalStateException {
        mustHaveEntered(ENGINEER);
        int forgotten = ruleCount;
        ruleCount = 0;
        allOutputsOff();
        return forgotten;
    }

    public int poll() {
        polls++;
        askPlaces();
        int fires = watchZones();
        followRules();
        driveOutputs();
        return fires;
    }

    public int key(int code) {
        entered = code == ENGINEER_CODE ? ENGINEER : code == USER_CODE ? USER : 0;
        return entered;
    }

    public boolean silence() throws IllegalStateException {
        mustHaveEntered(USER);
        if (silent) {
            return false;
        }
        silent = true;
        entries.add(LOG_SILENCE, 0, polls);
        return true;
    }

    public int reset() throws IllegalStateException {
        mustHaveEntered(USER);
        int fires = 0;
        for (Zone zone : zones) {
            fires += zone.inFire ? 1 : 0;
            zone.inFire = false;
        }
        for (Place place : ring.places) {
            place.calmDown();
        }
        for (Rule rule : rules) {
            rule.held = 0;
        }
        allOutputsOff();
        silent = false;
        entries.add(LOG_RESET, 0, polls);
        return fires;
    }

    public boolean off(boolean zone, int number, boolean off)
            throws NoSuchElementException, IllegalStateException {
        mustExist(number, zone ? ZONES : PLACES);
        mustHaveEntered(ENGINEER);
        boolean was = zone ? zones[number].isOff : ring.places[number].isOff;
        if (was == off) {
            return false;
        }
        if (zone) {
            zones[number].isOff = off;
        } else {
            ring.places[number].isOff = off;
        }
        entries.add(LOG_SWITCHED, zone ? number : LOG_PLACE_FROM + number, polls);
        return true;
    }

    public float level(int place) throws NoSuchElementException {
        mustExist(place, PLACES);
        return ring.places[place].level;
    }

    public float base(int place) throws NoSuchElementException {
        mustExist(place, PLACES);
        return ring.places[place].base;
    }

    public int place(int place) throws NoSuchElementException {
        mustExist(place, PLACES);
        Place asked = ring.places[place];
        int reached = (ring.reachedPlaces() >> place) & 1;
        return reached
                + (asked.inAlarm ? 2 : 0)
                + (asked.atFault ? 4 : 0)
                + (asked.isOff ? 8 : 0)
                + 16 * asked.kind;
    }

    public int zone(int zone) throws NoSuchElementException {
        mustExist(zone, ZONES);
        Zone asked = zones[zone];
        return (asked.inFire ? 1 : 0) + (hasWarning(zone) ? 2 : 0) + (asked.isOff ? 4 : 0);
    }

    public int output(int output) throws NoSuchElementException {
        mustExist(output, OUTPUTS);
        if (!outputsOn[output]) {
            return 0;
        }
        boolean muted = silent && output < SOUNDERS;
        return muted ? 1 : 3;
    }

    public int held(int rule) throws NoSuchElementException {
        mustExist(rule, Math.min(ruleCount, RULES));
        return rules[rule].held;
    }

    public int log(int i, int word) throws IllegalArgumentException {
        mustBeAllowed(i >= 0 && i < Math.min(entries.size, LOG_ENTRIES));
        mustBeAllowed(word >= 0 && word < LOG_WORDS);
        return entries.words[i * LOG_WORDS + word];
    }

    public int count(int what) throws IllegalArgumentException {
        switch (what) {
            case 0:
                return polls;
            case 1:
                return ruleCount;
            case 2:
                return entered;
            case 3:
                return silent ? 1 : 0;
            case 4:
                return pad.length;
            case 5:
                return faults();
            default:
                throw new IllegalArgumentException("nothing is counted under this number");
        }
    }

    private static void mustExist(int number, int bound) {
        if (number < 0 || number >= bound) {
            throw new NoSuchElementException("there is no such number");
        }
    }

    private static void mustBeAllowed(boolean allowed) {
        if (!allowed) {
            throw new IllegalArgumentException("an argument is out of its range");
        }
    }

    private void mustHaveEntered(int least) {
        if (entered < least) {
            throw new IllegalStateException("the panel's level is too low");
        }
    }

    private void askPlaces() {
        int reached = ring.reachedPlaces();
        for (int i = 0; i < PLACES; i++) {
            Place asked = ring.places[i];
            if (!asked.isSensor()) {
                continue;
            }
            if (((reached >> i) & 1) == 0) {
                noteMiss(asked, i);
            } else {
                noteAnswer(asked, i);
            }
        }
    }

    private void noteMiss(Place asked, int number) {
        asked.missed++;
        if (asked.missed == MISSED_FOR_FAULT) {
            asked.atFault = true;
            entries.add(LOG_FAULT, number, polls);
        }
    }

    private void noteAnswer(Place asked, int number) {
        asked.missed = 0;
        if (asked.atFault) {
            asked.atFault = false;
            entries.add(LOG_FAULT_GONE, number, polls);
        }
        if (!asked.isOff) {
            asked.sense();
        }
    }

    private int watchZones() {
        int fires = 0;
        for (int i = 0; i < ZONES; i++) {
            Zone watched = zones[i];
            if (!watched.isOff && !watched.inFire && hasEnoughAlarms(i, watched.needed)) {
                watched.inFire = true;
                silent = false;
                entries.add(LOG_FIRE, i, polls);
                fires++;
            }
        }
        return fires;
    }

    private boolean hasEnoughAlarms(int zone, int needed) {
        int alarms = 0;
        for (Place place : ring.places) {
            if (place.watches(zone) && place.inAlarm) {
                if (place.kind == BUTTON) {
                    return true;
                }
                alarms++;
            }
        }
        return alarms >= needed;
    }

    private boolean hasWarning(int zone) {
        for (Place place : ring.places) {
            if (place.watches(zone) && place.warns()) {
                return true;
            }
        }
        return false;
    }

    private int faults() {
        int faults = 0;
        for (Place place : ring.places) {
            faults += place.atFault ? 1 : 0;
        }
        return faults;
    }

    private int facts() {
        int facts = faults() > 0 ? 1 << FACT_FAULT : 0;
        for (int i = 0; i < ZONES; i++) {
            if (zones[i].inFire) {
                facts |= 1 << (FACT_FIRE + i);
            }
            if (hasWarning(i)) {
                facts |= 1 << (FACT_WARNING + i);
            }
        }
        return facts;
    }

    private void followRules() {
        int facts = facts();
        for (int i = 0; i < ruleCount && i < RULES; i++) {
            Rule followed = rules[i];
            followed.held = followed.isTrue(facts) ? followed.held + 1 : 0;
        }
    }

    private void driveOutputs() {
        for (int i = 0; i < OUTPUTS; i++) {
            boolean driven = isDriven(i);
            if (driven && !outputsOn[i]) {
                entries.add(LOG_OUTPUT, i, polls);
            }
            outputsOn[i] = driven;
        }
    }

    private boolean isDriven(int output) {
        for (int i = 0; i < ruleCount && i < RULES; i++) {
            if (rules[i].output == output && rules[i].held > rules[i].delay) {
                return true;
            }
        }
        return false;
    }

    private void allOutputsOff() {
        for (int i = 0; i < OUTPUTS; i++) {
            outputsOn[i] = false;
        }
    }

    /** A place of the ring with the device that is fitted there. */
    private static final class Place {
        int kind;
        int zone;
        float threshold;
        float reading;
        float base;
        float level;
        int over;
        boolean inAlarm;
        int missed;
        boolean atFault;
        boolean isOff;

        Place() {
        }

        /** The reading and off belong to the place, so they outlive the device. */
        void begin(int newKind, int newZone, float newThreshold) {
            kind = newKind;
            zone = newZone;
            threshold = newThreshold;
            base = 0f;
            level = 0f;
            over = 0;
            inAlarm = false;
            missed = 0;
            atFault = false;
        }

        boolean isSensor() {
            return kind >= SMOKE && kind <= BUTTON;
        }

        boolean watches(int asked) {
            return isSensor() && zone == asked && !isOff;
        }

        boolean warns() {
            return inAlarm || kind == SMOKE && level >= threshold * 0.75f;
        }

        void sense() {
            if (kind == SMOKE) {
                senseSmoke();
            } else if (kind == HEAT) {
                senseHeat();
            } else {
                senseButton();
            }
            if (over >= OVER_FOR_ALARM) {
                inAlarm = true;
            }
        }

        void calmDown() {
            inAlarm = false;
            over = 0;
        }

        private void senseSmoke() {
            float d = reading - base;
            level = level + (d - level) * 0.5f;
            countOver();
            if (over == 0) {
                base = base + d * 0.0625f;
            }
        }

        private void senseHeat() {
            level = (reading - base) * 4f + reading * 0.25f;
            base = reading;
            countOver();
        }

        private void senseButton() {
            if (reading > 0f) {
                over = OVER_FOR_ALARM;
            }
            level = reading;
        }

        private void countOver() {
            over = level >= threshold ? over + 1 : 0;
        }
    }

    /** The places, and the wires between them and the panel. */
    private static final class Ring {
        final Place[] places;
        final int[] wires;

        Ring() {
            places = new Place[PLACES];
            for (int i = 0; i < PLACES; i++) {
                places[i] = new Place();
            }
            wires = new int[WIRES];
        }

        /** Bit p is set if place p is reached: from wire 0 upwards, or from the last wire downwards. */
        int reachedPlaces() {
            int passable = passableWires();
            int reached = 0;
            for (int p = 0; p < PLACES && ((passable >> p) & 1) != 0; p++) {
                reached |= 1 << p;
            }
            for (int p = PLACES - 1; p >= 0 && ((passable >> (p + 1)) & 1) != 0; p--) {
                reached |= 1 << p;
            }
            return reached;
        }

        /** Bit k is set if wire k is whole and in no dead stretch. */
        private int passableWires() {
            int passable = 0;
            int stretch = 0;
            boolean dead = false;
            for (int k = 0; k < WIRES; k++) {
                if (wires[k] == WHOLE) {
                    stretch |= 1 << k;
                }
                dead = dead || wires[k] == SHORT;
                if (endsStretch(k)) {
                    passable |= dead ? 0 : stretch;
                    stretch = 0;
                    dead = false;
                }
            }
            return passable;
        }

        private boolean endsStretch(int wire) {
            return wire < 0 || wire >= PLACES || places[wire].kind == ISOLATOR;
        }
    }

    private static final class Zone {
        int needed;
        boolean inFire;
        boolean isOff;

        Zone() {
            needed = 1;
        }
    }

    /** A rule, its condition kept as steps in the order in which a stack of truths works them off. */
    private static final class Rule {
        final int[] steps;
        int stepCount;
        int output;
        int delay;
        int held;

        Rule() {
            steps = new int[PAD_LENGTH];
        }

        void clear() {
            stepCount = 0;
            output = 0;
            delay = 0;
            held = 0;
        }

        /** Each step stands for a character of its own, so a pad's text never has too many. */
        void addStep(int step) {
            if (stepCount >= 0 && stepCount < PAD_LENGTH) {
                steps[stepCount] = step;
                stepCount++;
            }
        }

        boolean isTrue(int facts) {
            int truths = 0;
            for (int i = 0; i < stepCount && i < PAD_LENGTH; i++) {
                truths = workOff(steps[i], truths, facts);
            }
            return (truths & 1) != 0;
        }

        /** The stack is the bits of a number, its top the lowest: nesting keeps it far below 32. */
        private static int workOff(int step, int truths, int facts) {
            int top = truths & 1;
            int below = truths >> 1;
            switch (step) {
                case STEP_NOT:
                    return truths ^ 1;
                case STEP_AND:
                    return below & (~1 | top);
                case STEP_OR:
                    return below | top;
                default:
                    return (truths << 1) | ((facts >> step) & 1);
            }
        }
    }

    /**
     * The text from which a rule is read. The reader moves on only behind a character that can stand
     * where it does, so where it stops short is the text's fault.
     */
    private static final class Pad {
        final char[] text;
        int length;
        private int at;

        Pad() {
            text = new char[PAD_LENGTH];
        }

        boolean append(char c) {
            if (!standsInRules(c) || length < 0 || length >= PAD_LENGTH) {
                return false;
            }
            text[length] = c;
            length++;
            return true;
        }

        /** Answers the text's fault, or NONE if the row holds a rule now. */
        int readInto(Rule row) {
            at = 0;
            row.clear();
            boolean whole = readCondition(row, 0) && readTarget(row) && at == length;
            return whole ? NONE : at;
        }

        private static boolean standsInRules(char c) {
            return c >= '0' && c <= '9'
                    || c == 'z' || c == 'w' || c == 'f'
                    || c == '!' || c == '(' || c == ')'
                    || c == '&' || c == '|'
                    || c == '>' || c == ':';
        }

        private boolean readCondition(Rule row, int deep) {
            if (!readTerm(row, deep)) {
                return false;
            }
            for (int i = 0; i < PAD_LENGTH; i++) {
                int step = sees('&') ? STEP_AND : sees('|') ? STEP_OR : NONE;
                if (step == NONE) {
                    return true;
                }
                at++;
                if (!readTerm(row, deep)) {
                    return false;
                }
                row.addStep(step);
            }
            return true;
        }

        private boolean readTerm(Rule row, int deep) {
            if (passes('z')) {
                return readZone(row, FACT_FIRE);
            }
            if (passes('w')) {
                return readZone(row, FACT_WARNING);
            }
            if (passes('f')) {
                row.addStep(FACT_FAULT);
                return true;
            }
            if (deep >= DEEPEST) {
                return false;
            }
            if (passes('(')) {
                return readCondition(row, deep + 1) && passes(')');
            }
            if (passes('!') && readTerm(row, deep + 1)) {
                row.addStep(STEP_NOT);
                return true;
            }
            return false;
        }

        private boolean readZone(Rule row, int firstFact) {
            int zone = readDigit(ZONES);
            if (zone == NONE) {
                return false;
            }
            row.addStep(firstFact + zone);
            return true;
        }

        private boolean readTarget(Rule row) {
            if (!passes('>')) {
                return false;
            }
            row.output = readDigit(OUTPUTS);
            if (row.output == NONE) {
                return false;
            }
            if (passes(':')) {
                row.delay = readDigit(DELAYS);
            }
            return row.delay != NONE;
        }

        private int readDigit(int bound) {
            if (at < 0 || at >= length || at >= PAD_LENGTH) {
                return NONE;
            }
            int digit = text[at] - '0';
            if (digit < 0 || digit >= bound) {
                return NONE;
            }
            at++;
            return digit;
        }

        private boolean passes(char c) {
            if (!sees(c)) {
                return false;
            }
            at++;
            return true;
        }

        private boolean sees(char c) {
            return at >= 0 && at < length && at < PAD_LENGTH && text[at] == c;
        }
    }

    /** The last entries in one row, the latest in front. */
    private static final class Log {
        final int[] words;
        int size;

        Log() {
            words = new int[LOG_ENTRIES * LOG_WORDS];
        }

        void add(int what, int number, int poll) {
            System.arraycopy(words, 0, words, LOG_WORDS, (LOG_ENTRIES - 1) * LOG_WORDS);
            words[0] = what;
            words[1] = number;
            words[2] = poll;
            size = Math.min(size + 1, LOG_ENTRIES);
        }
    }
}
