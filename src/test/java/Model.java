import java.util.ArrayList;
import java.util.List;
import java.util.TreeMap;
import java.util.regex.Matcher;
import java.util.regex.Pattern;

/**
 * The document once more, as slowly and as literally as can be: what ModelTest holds the class
 * against. It shares no code and no way of keeping things with the class.
 */
final class Model {
    private static final int INVALID = -1001;
    private static final int IMPOSSIBLE = -1002;
    private static final int LIMIT = -1003;
    private static final int NOT_FOUND = -1004;
    private static final Pattern APPLICATION =
            Pattern.compile("([0-9])n([0-9]{1,2})h([0-9])-([0-9])s([0-9]{1,3});");

    /** crane, night, first, last, swing, state (1 valid, 2 by a call, 3 by itself) */
    private List<int[]> permits = new ArrayList<>();
    /** x, y, reach, height, street, noise */
    private List<int[]> cranes = new ArrayList<>();
    private int[] settings = {100, 40, 5};
    private TreeMap<Integer, Integer> winds = new TreeMap<>();
    private TreeMap<String, Integer> allowed = new TreeMap<>();
    /** from, to, night, credits */
    private List<int[]> transfers = new ArrayList<>();
    private final List<Model> history = new ArrayList<>();
    private String text = "";

    private Model copy() {
        Model other = new Model();
        other.take(this);
        return other;
    }

    private void take(Model other) {
        permits = deep(other.permits);
        cranes = deep(other.cranes);
        settings = other.settings.clone();
        winds = new TreeMap<>(other.winds);
        allowed = new TreeMap<>(other.allowed);
        transfers = deep(other.transfers);
    }

    private static List<int[]> deep(List<int[]> rows) {
        List<int[]> copies = new ArrayList<>();
        for (int[] row : rows) {
            copies.add(row.clone());
        }
        return copies;
    }

    private void change() {
        history.add(copy());
        if (history.size() == 5) {
            history.remove(0);
        }
    }

    private static boolean out(int value, int least, int most) {
        return value < least || value > most;
    }

    private boolean noCrane(int crane) {
        return out(crane, 0, cranes.size() - 1);
    }

    private boolean noPermit(int permit) {
        return out(permit, 0, permits.size() - 1);
    }

    int crane(int x, int y, int reach, int height, int street, int noise) {
        if (out(x, 0, 15) || out(y, 0, 15) || out(reach, 1, 8) || out(height, 10, 99)
                || out(street, 0, 3) || out(noise, 1, 9)) {
            return INVALID;
        }
        for (int[] c : cranes) {
            if (c[0] == x && c[1] == y) {
                return IMPOSSIBLE;
            }
        }
        if (cranes.size() == 8) {
            return LIMIT;
        }
        change();
        cranes.add(new int[] {x, y, reach, height, street, noise});
        return cranes.size() - 1;
    }

    int noise(int crane, int noise) {
        if (noCrane(crane) || out(noise, 1, 9)) {
            return INVALID;
        }
        change();
        cranes.get(crane)[5] = noise;
        int gone = 0;
        for (int night = 0; night < 30; night++) {
            gone += cutCredits(cranes.get(crane)[4], night);
        }
        return gone;
    }

    int craneOf(int crane, int what) {
        if (noCrane(crane) || out(what, 0, 7)) {
            return INVALID;
        }
        if (what <= 5) {
            return cranes.get(crane)[what];
        }
        if (what == 7) {
            return settings[0] - Math.floorDiv(cranes.get(crane)[3], 2);
        }
        int valid = 0;
        for (int[] p : permits) {
            valid += p[5] == 1 && p[0] == crane ? 1 : 0;
        }
        return valid;
    }

    int set(int what, int value) {
        if (out(what, 0, 2) || what == 0 && out(value, 50, 150)
                || what == 1 && out(value, 0, 200) || what == 2 && out(value, 0, 50)) {
            return INVALID;
        }
        change();
        settings[what] = value;
        int gone = 0;
        for (int night = 0; night < 30; night++) {
            if (what == 0) {
                gone += cutWind(night);
            }
            for (int street = 0; what == 1 && street < 4; street++) {
                gone += cutCredits(street, night);
            }
        }
        return gone;
    }

    int wind(int night, int wind) {
        if (out(night, 0, 29) || out(wind, 0, 99)) {
            return INVALID;
        }
        change();
        winds.put(night, wind);
        return cutWind(night);
    }

    int allow(int street, int night, int allowance) {
        if (out(street, 0, 3) || out(night, 0, 29) || out(allowance, 0, 200)) {
            return INVALID;
        }
        change();
        allowed.put(street + "/" + night, allowance);
        return cutCredits(street, night);
    }

    int transfer(int from, int to, int night, int credits) {
        if (out(from, 0, 3) || out(to, 0, 3) || from == to || out(night, 0, 29)
                || out(credits, 1, 200)) {
            return INVALID;
        }
        if (street(from, night, 3) - street(from, night, 4) < credits) {
            return IMPOSSIBLE;
        }
        change();
        transfers.add(new int[] {from, to, night, credits});
        return street(from, night, 3) - street(from, night, 4);
    }

    int street(int street, int night, int what) {
        if (out(street, 0, 3) || out(night, 0, 29) || out(what, 0, 6)) {
            return INVALID;
        }
        int allowance = allowed.getOrDefault(street + "/" + night, settings[1]);
        int to = 0;
        int from = 0;
        for (int[] t : transfers) {
            to += t[1] == street && t[2] == night ? t[3] : 0;
            from += t[0] == street && t[2] == night ? t[3] : 0;
        }
        int used = 0;
        int valid = 0;
        for (int p = 0; p < permits.size(); p++) {
            int[] row = permits.get(p);
            if (row[5] == 1 && row[1] == night && cranes.get(row[0])[4] == street) {
                used += uses(p);
                valid++;
            }
        }
        return new int[] {allowance, to, from, allowance + to - from, used, valid,
            winds.getOrDefault(night, 0)}[what];
    }

    int count(int what) {
        int[] states = new int[4];
        int used = 0;
        int pairs = 0;
        for (int p = 0; p < permits.size(); p++) {
            states[permits.get(p)[5]]++;
            used += permits.get(p)[5] == 1 ? uses(p) : 0;
            for (int q = 0; q < p; q++) {
                boolean valid = permits.get(p)[5] == 1 && permits.get(q)[5] == 1;
                pairs += valid && shareAir(permits.get(p), permits.get(q)) ? 1 : 0;
            }
        }
        switch (what) {
            case 0: return cranes.size();
            case 1: return states[1];
            case 2: return permits.size();
            case 3: return states[2];
            case 4: return states[3];
            case 5: return used;
            case 6: return pairs;
            case 7: return history.size();
            case 8: return text.length();
            case 10: case 11: case 12: return settings[what - 10];
            default: return INVALID;
        }
    }

    int undo() {
        if (history.isEmpty()) {
            return IMPOSSIBLE;
        }
        take(history.remove(history.size() - 1));
        return history.size();
    }

    int covers(int crane, int swing, int x, int y) {
        if (noCrane(crane) || out(swing, 1, 255) || out(x, 0, 15) || out(y, 0, 15)) {
            return INVALID;
        }
        return covered(crane, swing, x, y) ? 1 : 0;
    }

    int area(int crane, int swing) {
        if (noCrane(crane) || out(swing, 1, 255)) {
            return INVALID;
        }
        int cells = 0;
        for (int cell = 0; cell < 256; cell++) {
            cells += covered(crane, swing, cell % 16, cell / 16) ? 1 : 0;
        }
        return cells;
    }

    int refusal(int crane, int night, int hours, int swing) {
        if (badApplication(crane, night, hours, swing)) {
            return INVALID;
        }
        return reason(new int[] {crane, night, hours / 10, hours % 10, swing, 1});
    }

    int apply(int crane, int night, int hours, int swing) {
        if (badApplication(crane, night, hours, swing)) {
            return INVALID;
        }
        int[] application = {crane, night, hours / 10, hours % 10, swing, 1};
        if (reason(application) != 0) {
            return IMPOSSIBLE;
        }
        if (count(1) >= 24 || permits.size() >= 200) {
            return LIMIT;
        }
        change();
        permits.add(application);
        return permits.size() - 1;
    }

    int withdraw(int permit) {
        if (noPermit(permit)) {
            return INVALID;
        }
        if (permits.get(permit)[5] != 1) {
            return IMPOSSIBLE;
        }
        change();
        permits.get(permit)[5] = 2;
        return uses(permit);
    }

    int permit(int permit, int what) {
        if (noPermit(permit) || out(what, 0, 5)) {
            return INVALID;
        }
        int[] p = permits.get(permit);
        return new int[] {p[0], p[1], 10 * p[2] + p[3], p[4], uses(permit), p[5]}[what];
    }

    int inOrder(int index) {
        if (index < 0) {
            return INVALID;
        }
        List<Integer> valid = new ArrayList<>();
        for (int p = 0; p < permits.size(); p++) {
            if (permits.get(p)[5] == 1) {
                valid.add(p);
            }
        }
        valid.sort((a, b) -> permits.get(a)[1] != permits.get(b)[1]
                ? permits.get(a)[1] - permits.get(b)[1]
                : permits.get(a)[2] != permits.get(b)[2]
                ? permits.get(a)[2] - permits.get(b)[2] : a - b);
        return index < valid.size() ? valid.get(index) : NOT_FOUND;
    }

    int shares(int one, int other) {
        if (noPermit(one) || noPermit(other)) {
            return INVALID;
        }
        return shareAir(permits.get(one), permits.get(other)) ? 1 : 0;
    }

    int inTheWay(int crane, int night, int hours, int swing) {
        if (badApplication(crane, night, hours, swing)) {
            return INVALID;
        }
        return inTheWayOf(new int[] {crane, night, hours / 10, hours % 10, swing, 1});
    }

    int firstFree(int crane, int swing, int many, int from) {
        if (noCrane(crane) || out(swing, 1, 255) || out(many, 1, 10) || out(from, 0, 29)) {
            return INVALID;
        }
        for (int time = 10 * from; time < 300; time++) {
            int last = time % 10 + many - 1;
            if (last <= 9
                    && reason(new int[] {crane, time / 10, time % 10, last, swing, 1}) == 0) {
                return time;
            }
        }
        return NOT_FOUND;
    }

    int type(int character) {
        if (out(character, 32, 126)) {
            return INVALID;
        }
        if (text.length() == 80) {
            return LIMIT;
        }
        text += (char) character;
        return text.length();
    }

    int clearText() {
        int length = text.length();
        text = "";
        return length;
    }

    int fault(int what) {
        if (out(what, 0, 1)) {
            return INVALID;
        }
        int[] found = copy().enterAll(text);
        return found[1] == 0 ? NOT_FOUND : found[what];
    }

    int enter() {
        if (fault(1) != NOT_FOUND) {
            return IMPOSSIBLE;
        }
        Model after = copy();
        int granted = after.enterAll(text)[2];
        change();
        take(after);
        return granted;
    }

    /**
     * Grants until a fault: its place, its reason (0: none), and how many were granted. Each
     * apply() is a change of its own: so this is called on copies only.
     */
    private int[] enterAll(String wanted) {
        int place = 0;
        int granted = 0;
        while (place < wanted.length()) {
            Matcher found = APPLICATION.matcher(wanted.substring(place));
            if (!found.lookingAt()) {
                return new int[] {place, 11, granted};
            }
            int crane = Integer.parseInt(found.group(1));
            int night = Integer.parseInt(found.group(2));
            int hours = Integer.parseInt(found.group(3) + found.group(4));
            int swing = Integer.parseInt(found.group(5));
            int answer = apply(crane, night, hours, swing);
            if (answer < 0) {
                int reason = answer == INVALID ? 12 : answer == LIMIT ? 5
                        : refusal(crane, night, hours, swing);
                return new int[] {place, reason, granted};
            }
            granted++;
            place += found.end();
        }
        return new int[] {0, 0, granted};
    }

    private boolean badApplication(int crane, int night, int hours, int swing) {
        return noCrane(crane) || out(night, 0, 29) || out(hours, 0, 99)
                || hours % 10 < hours / 10 || out(swing, 1, 255);
    }

    private int reason(int[] application) {
        int crane = application[0];
        int night = application[1];
        for (int[] p : permits) {
            if (p[5] == 1 && p[0] == crane && p[1] == night && hourInCommon(p, application)) {
                return 1;
            }
        }
        if (stops(crane, night)) {
            return 2;
        }
        if (inTheWayOf(application) != NOT_FOUND) {
            return 3;
        }
        int street = cranes.get(crane)[4];
        int wanted = (application[3] - application[2] + 1) * cranes.get(crane)[5];
        return street(street, night, 4) + wanted > street(street, night, 3) ? 4 : 0;
    }

    private int inTheWayOf(int[] application) {
        for (int p = 0; p < permits.size(); p++) {
            if (permits.get(p)[5] == 1 && shareAir(permits.get(p), application)) {
                return p;
            }
        }
        return NOT_FOUND;
    }

    private boolean stops(int crane, int night) {
        return winds.getOrDefault(night, 0) >= craneOf(crane, 7);
    }

    private int uses(int permit) {
        int[] p = permits.get(permit);
        return (p[3] - p[2] + 1) * cranes.get(p[0])[5];
    }

    private static boolean hourInCommon(int[] one, int[] other) {
        for (int hour = 0; hour < 10; hour++) {
            if (!out(hour, one[2], one[3]) && !out(hour, other[2], other[3])) {
                return true;
            }
        }
        return false;
    }

    private boolean shareAir(int[] one, int[] other) {
        if (one[0] == other[0] || one[1] != other[1] || !hourInCommon(one, other)
                || Math.abs(cranes.get(one[0])[3] - cranes.get(other[0])[3]) >= settings[2]) {
            return false;
        }
        for (int x = 0; x < 16; x++) {
            for (int y = 0; y < 16; y++) {
                if (covered(one[0], one[4], x, y) && covered(other[0], other[4], x, y)) {
                    return true;
                }
            }
        }
        return false;
    }

    private boolean covered(int crane, int swing, int x, int y) {
        int[] c = cranes.get(crane);
        int dx = x - c[0];
        int dy = y - c[1];
        if (dx == 0 && dy == 0) {
            return true;
        }
        return dx * dx + dy * dy <= c[2] * c[2] && (swing & 1 << direction(dx, dy)) != 0;
    }

    private static int direction(int dx, int dy) {
        if (dx > 0 && dy >= 0 && dy < dx) {
            return 0;
        } else if (dx > 0 && dy >= dx) {
            return 1;
        } else if (dx <= 0 && dy > 0 && -dx < dy) {
            return 2;
        } else if (dx < 0 && dy > 0 && -dx >= dy) {
            return 3;
        } else if (dx < 0 && dy <= 0 && -dy < -dx) {
            return 4;
        } else if (dx < 0 && -dy >= -dx) {
            return 5;
        } else if (dx >= 0 && dy < 0 && dx < -dy) {
            return 6;
        }
        return 7;
    }

    private int cutWind(int night) {
        int gone = 0;
        for (int[] p : permits) {
            if (p[5] == 1 && p[1] == night && stops(p[0], night)) {
                p[5] = 3;
                gone++;
            }
        }
        return gone;
    }

    private int cutCredits(int street, int night) {
        int gone = 0;
        while (street(street, night, 4) > street(street, night, 3)
                && street(street, night, 5) > 0) {
            int highest = -1;
            for (int p = 0; p < permits.size(); p++) {
                int[] row = permits.get(p);
                if (row[5] == 1 && row[1] == night && cranes.get(row[0])[4] == street) {
                    highest = p;
                }
            }
            permits.get(highest)[5] = 3;
            gone++;
        }
        return gone;
    }
}
