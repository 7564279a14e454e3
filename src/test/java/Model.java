import java.util.ArrayDeque;
import java.util.ArrayList;
import java.util.Deque;
import java.util.List;
import java.util.NoSuchElementException;

/**
 * A second reading of the document, as near to its words as can be and on purpose unlike FirePanel:
 * the ring is walked wire by wire, a text is checked by states and asked as a text.
 */
final class Model implements Face {
    private static final class Device {
        int kind;
        int zone;
        float threshold;
        float base;
        float level;
        int over;
        boolean alarm;
        int missed;
        boolean fault;
    }

    private record Entry(int what, int number, int poll) {
    }

    private static final class Law {
        String condition;
        int output;
        int delay;
        int held;
    }

    private final Device[] devices = new Device[16];
    private final float[] readings = new float[16];
    private final boolean[] placeOff = new boolean[16];
    private final int[] wires = new int[17];
    private final int[] needs = {1, 1, 1, 1};
    private final boolean[] fires = new boolean[4];
    private final boolean[] zoneOff = new boolean[4];
    private final boolean[] on = new boolean[6];
    private final List<Law> laws = new ArrayList<>();
    private final List<Entry> entries = new ArrayList<>();
    private String pad = "";
    private int polls;
    private int level;
    private boolean silence;

    Model() {
        for (int i = 0; i < 16; i++) {
            devices[i] = new Device();
        }
    }

    private static void exist(int number, int many) {
        if (number < 0 || number >= many) {
            throw new NoSuchElementException();
        }
    }

    private static void argument(boolean good) {
        if (!good) {
            throw new IllegalArgumentException();
        }
    }

    private void state(boolean good) {
        if (!good) {
            throw new IllegalStateException();
        }
    }

    private void enter(int what, int number) {
        entries.add(new Entry(what, number, polls));
    }

    public void fit(int place, int kind, int zone, float threshold) {
        exist(place, 16);
        exist(zone, 4);
        argument(List.of(0, 1, 2, 3, 4).contains(kind));
        argument(!Float.isNaN(threshold) && !(threshold < 0.5f) && !(threshold > 100f));
        state(level >= 2);
        Device d = new Device();
        d.kind = kind;
        d.zone = zone;
        d.threshold = threshold;
        devices[place] = d;
    }

    public void need(int zone, int many) {
        exist(zone, 4);
        argument(List.of(1, 2, 3, 4).contains(many));
        state(level >= 2);
        needs[zone] = many;
    }

    public void wire(int wire, int how) {
        exist(wire, 17);
        argument(List.of(0, 1, 2).contains(how));
        wires[wire] = how;
    }

    public void reading(int place, float v) {
        exist(place, 16);
        argument(!Float.isNaN(v) && !(v < -100f) && !(v > 200f));
        readings[place] = v;
    }

    public boolean type(char c) {
        if ("zwf!()&|>:0123456789".indexOf(c) < 0 || pad.length() == 20) {
            return false;
        }
        pad += c;
        return true;
    }

    public int rule() {
        state(level >= 2 && laws.size() < 6);
        String text = pad;
        pad = "";
        int fault = faultOf(text);
        if (fault >= 0) {
            return 1 + fault;
        }
        Law law = new Law();
        int arrow = text.indexOf('>');
        law.condition = text.substring(0, arrow);
        law.output = text.charAt(arrow + 1) - '0';
        law.delay = text.length() > arrow + 2 ? text.charAt(arrow + 3) - '0' : 0;
        laws.add(law);
        return 0;
    }

    private enum Wants { TERM, ZONE, BEHIND_TERM, OUTPUT, BEHIND_OUTPUT, DELAY, END }

    /** -1 for a rule. What is open is kept in a stack, whose size is the depth. */
    static int faultOf(String text) {
        Deque<Character> open = new ArrayDeque<>();
        Wants wants = Wants.TERM;
        for (int i = 0; i < text.length(); i++) {
            char c = text.charAt(i);
            Wants next = null;
            switch (wants) {
                case TERM -> {
                    if (c == 'z' || c == 'w') {
                        next = Wants.ZONE;
                    } else if (c == 'f') {
                        next = closeTerm(open);
                    } else if ((c == '!' || c == '(') && open.size() < 4) {
                        open.push(c);
                        next = Wants.TERM;
                    }
                }
                case ZONE -> next = c >= '0' && c <= '3' ? closeTerm(open) : null;
                case BEHIND_TERM -> {
                    if (c == '&' || c == '|') {
                        next = Wants.TERM;
                    } else if (c == ')' && !open.isEmpty()) {
                        open.pop();
                        next = closeTerm(open);
                    } else if (c == '>' && open.isEmpty()) {
                        next = Wants.OUTPUT;
                    }
                }
                case OUTPUT -> next = c >= '0' && c <= '5' ? Wants.BEHIND_OUTPUT : null;
                case BEHIND_OUTPUT -> next = c == ':' ? Wants.DELAY : null;
                case DELAY -> next = c >= '0' && c <= '9' ? Wants.END : null;
                case END -> next = null;
            }
            if (next == null) {
                return i;
            }
            wants = next;
        }
        return wants == Wants.BEHIND_OUTPUT || wants == Wants.END ? -1 : text.length();
    }

    private static Wants closeTerm(Deque<Character> open) {
        while (!open.isEmpty() && open.peek() == '!') {
            open.pop();
        }
        return Wants.BEHIND_TERM;
    }

    /** Looks for the last & or | outside of brackets: all before it is its left side. */
    private boolean truth(String condition) {
        int deep = 0;
        for (int i = condition.length() - 1; i >= 0; i--) {
            char c = condition.charAt(i);
            deep += c == ')' ? 1 : c == '(' ? -1 : 0;
            if (deep == 0 && (c == '&' || c == '|')) {
                boolean left = truth(condition.substring(0, i));
                boolean right = truth(condition.substring(i + 1));
                return c == '&' ? left && right : left || right;
            }
        }
        return switch (condition.charAt(0)) {
            case '!' -> !truth(condition.substring(1));
            case '(' -> truth(condition.substring(1, condition.length() - 1));
            case 'z' -> fires[condition.charAt(1) - '0'];
            case 'w' -> warning(condition.charAt(1) - '0');
            default -> count(5) > 0;
        };
    }

    private boolean warning(int zone) {
        boolean warning = false;
        for (int i = 0; i < 16; i++) {
            Device d = devices[i];
            boolean smoky = d.kind == 1 && !(d.level < d.threshold * 0.75f);
            warning |= d.zone == zone && !placeOff[i] && (d.alarm || smoky);
        }
        return warning;
    }

    public int forget() {
        state(level >= 2);
        int many = laws.size();
        laws.clear();
        java.util.Arrays.fill(on, false);
        return many;
    }

    private boolean dead(int wire) {
        for (int k = wire; k >= 0; k--) {
            if (wires[k] == 2) {
                return true;
            }
            if (k > 0 && devices[k - 1].kind == 4) {
                break;
            }
        }
        for (int k = wire; k <= 16; k++) {
            if (wires[k] == 2) {
                return true;
            }
            if (k < 16 && devices[k].kind == 4) {
                break;
            }
        }
        return false;
    }

    private boolean reached(int place) {
        boolean front = true;
        for (int k = 0; k <= place; k++) {
            front &= wires[k] != 1 && !dead(k);
        }
        boolean back = true;
        for (int k = place + 1; k <= 16; k++) {
            back &= wires[k] != 1 && !dead(k);
        }
        return front || back;
    }

    public int poll() {
        polls++;
        for (int i = 0; i < 16; i++) {
            if (devices[i].kind >= 1 && devices[i].kind <= 3) {
                ask(i, devices[i]);
            }
        }
        int came = 0;
        for (int z = 0; z < 4; z++) {
            if (!zoneOff[z] && !fires[z] && burns(z)) {
                fires[z] = true;
                silence = false;
                enter(1, z);
                came++;
            }
        }
        for (Law law : laws) {
            law.held = truth(law.condition) ? law.held + 1 : 0;
        }
        for (int o = 0; o < 6; o++) {
            boolean was = on[o];
            on[o] = false;
            for (Law law : laws) {
                on[o] |= law.output == o && law.held > law.delay;
            }
            if (on[o] && !was) {
                enter(4, o);
            }
        }
        return came;
    }

    private void ask(int i, Device d) {
        if (!reached(i)) {
            d.missed++;
            if (d.missed == 2) {
                d.fault = true;
                enter(2, i);
            }
            return;
        }
        d.missed = 0;
        if (d.fault) {
            d.fault = false;
            enter(3, i);
        }
        if (placeOff[i]) {
            return;
        }
        float reading = readings[i];
        switch (d.kind) {
            case 1 -> {
                float difference = reading - d.base;
                d.level = d.level + (difference - d.level) * 0.5f;
                d.over = d.level < d.threshold ? 0 : d.over + 1;
                d.base = d.over == 0 ? d.base + difference * 0.0625f : d.base;
            }
            case 2 -> {
                d.level = (reading - d.base) * 4f + reading * 0.25f;
                d.base = reading;
                d.over = d.level < d.threshold ? 0 : d.over + 1;
            }
            default -> {
                d.over = reading > 0f ? 3 : d.over;
                d.level = reading;
            }
        }
        d.alarm |= d.over >= 3;
    }

    private boolean burns(int zone) {
        int alarms = 0;
        boolean button = false;
        for (int i = 0; i < 16; i++) {
            if (devices[i].zone == zone && devices[i].alarm && !placeOff[i]) {
                alarms++;
                button |= devices[i].kind == 3;
            }
        }
        return alarms >= needs[zone] || button;
    }

    public int key(int code) {
        level = code == 1357 ? 1 : code == 2468 ? 2 : 0;
        return level;
    }

    public boolean silence() {
        state(level >= 1);
        boolean was = silence;
        silence = true;
        if (!was) {
            enter(5, 0);
        }
        return !was;
    }

    public int reset() {
        state(level >= 1);
        int many = 0;
        for (int z = 0; z < 4; z++) {
            many += fires[z] ? 1 : 0;
            fires[z] = false;
        }
        for (Device d : devices) {
            d.alarm = false;
            d.over = 0;
        }
        for (Law law : laws) {
            law.held = 0;
        }
        java.util.Arrays.fill(on, false);
        silence = false;
        enter(6, 0);
        return many;
    }

    public boolean off(boolean zone, int number, boolean off) {
        boolean[] row = zone ? zoneOff : placeOff;
        exist(number, row.length);
        state(level >= 2);
        boolean change = row[number] != off;
        row[number] = off;
        if (change) {
            enter(7, zone ? number : 10 + number);
        }
        return change;
    }

    public float level(int place) {
        exist(place, 16);
        return devices[place].level;
    }

    public float base(int place) {
        exist(place, 16);
        return devices[place].base;
    }

    public int place(int place) {
        exist(place, 16);
        Device d = devices[place];
        int told = 16 * d.kind;
        told += reached(place) ? 1 : 0;
        told += d.alarm ? 2 : 0;
        told += d.fault ? 4 : 0;
        return told + (placeOff[place] ? 8 : 0);
    }

    public int zone(int zone) {
        exist(zone, 4);
        return (fires[zone] ? 1 : 0) + (warning(zone) ? 2 : 0) + (zoneOff[zone] ? 4 : 0);
    }

    public int output(int output) {
        exist(output, 6);
        boolean sounds = on[output] && (output > 2 || !silence);
        return (on[output] ? 1 : 0) + (sounds ? 2 : 0);
    }

    public int held(int rule) {
        exist(rule, laws.size());
        return laws.get(rule).held;
    }

    public int log(int i, int word) {
        argument(i >= 0 && i < 16 && i < entries.size() && word >= 0 && word <= 2);
        Entry entry = entries.get(entries.size() - 1 - i);
        return word == 0 ? entry.what : word == 1 ? entry.number : entry.poll;
    }

    public int count(int what) {
        argument(what >= 0 && what <= 5);
        int faults = 0;
        for (Device d : devices) {
            faults += d.fault ? 1 : 0;
        }
        return new int[] {polls, laws.size(), level, silence ? 1 : 0, pad.length(), faults}[what];
    }
}
