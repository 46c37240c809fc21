import java.util.Arrays;

/** Night permits for cranes across building sites. README.md tells how to use it. */
public final class CranePermits {
    public static final int INVALID_ARGUMENT = -1001;
    public static final int NOT_POSSIBLE = -1002;
    public static final int LIMIT_REACHED = -1003;
    public static final int NOT_FOUND = -1004;

    private static final int SIDE = 16;
    private static final int CRANES = 8;
    private static final int STREETS = 4;
    private static final int NIGHTS = 30;
    private static final int HOURS = 10;
    private static final int DIRECTIONS = 8;
    private static final int VALID_PERMITS = 24;
    private static final int PERMITS = 200;
    private static final int HISTORY = 4;
    private static final int SIGNS = 80;

    /** The ground's cells are kept as bits of longs: so many longs, with so many cells each. */
    private static final int PARTS = 4;
    private static final int CELLS_OF_PART = 64;

    private static final int STOP = 0;
    private static final int ALLOWANCE = 1;
    private static final int CLEARANCE = 2;
    private static final int[] SETTING_LEAST = {50, 0, 0};
    private static final int[] SETTING_MOST = {150, 200, 50};

    private static final int NOT_SET = -1;
    private static final int NONE = -1;

    private static final int VALID = 1;
    private static final int WITHDRAWN_BY_CALL = 2;
    private static final int WITHDRAWN_BY_ITSELF = 3;

    private static final int OWN_PERMIT = 1;
    private static final int MUST_STOP = 2;
    private static final int SHARED_AIR = 3;
    private static final int CREDITS_SHORT = 4;
    private static final int NO_ROOM = 5;
    private static final int MALFORMED = 11;
    private static final int OUT_OF_RANGE = 12;

    private final Site now = new Site();
    /** Where the applications of the text are tried out, so that a fault leaves no trace. */
    private final Site trial = new Site();
    private final Site[] past = new Site[HISTORY];
    private int pastCount = 0;
    private final Text text = new Text();

    public CranePermits() {
        for (int i = 0; i < past.length; i++) {
            past[i] = new Site();
        }
    }

    // ---- cranes and nights

    public int crane(int x, int y, int reach, int height, int street, int noise) {
        if (!isCell(x, y) || !isIn(reach, 1, 8) || !isIn(height, 10, 99)
                || !isStreet(street) || !isIn(noise, 1, 9)) {
            return INVALID_ARGUMENT;
        }
        if (now.hasCraneIn(x, y)) {
            return NOT_POSSIBLE;
        }
        if (now.craneCount >= CRANES) {
            return LIMIT_REACHED;
        }
        remember();
        Crane added = new Crane(now.craneCount, x, y, reach, height, street);
        now.addCrane(added, noise);
        return added.number;
    }

    public int noise(int crane, int noise) {
        Crane set = now.craneAt(crane);
        if (set == null || !isIn(noise, 1, 9)) {
            return INVALID_ARGUMENT;
        }
        remember();
        put(now.noises, set.number, noise);
        return now.withdrawFailing();
    }

    public int craneOf(int crane, int what) {
        Crane asked = now.craneAt(crane);
        if (asked == null) {
            return INVALID_ARGUMENT;
        }
        switch (what) {
            case 0: return asked.x;
            case 1: return asked.y;
            case 2: return asked.reach;
            case 3: return asked.height;
            case 4: return asked.street;
            case 5: return at(now.noises, asked.number);
            case 6: return now.validOfCrane(asked);
            case 7: return now.stopWindOf(asked);
            default: return INVALID_ARGUMENT;
        }
    }

    public int set(int what, int value) {
        if (!isIn(what, STOP, CLEARANCE)
                || !isIn(value, at(SETTING_LEAST, what), at(SETTING_MOST, what))) {
            return INVALID_ARGUMENT;
        }
        remember();
        put(now.settings, what, value);
        return now.withdrawFailing();
    }

    public int wind(int night, int wind) {
        if (!isNight(night) || !isIn(wind, 0, 99)) {
            return INVALID_ARGUMENT;
        }
        remember();
        put(now.winds, night, wind);
        return now.withdrawFailing();
    }

    public int allow(int street, int night, int allowance) {
        if (!isStreet(street) || !isNight(night) || !isIn(allowance, 0, 200)) {
            return INVALID_ARGUMENT;
        }
        remember();
        put(now.allowances, streetNight(street, night), allowance);
        return now.withdrawFailing();
    }

    public int transfer(int from, int to, int night, int credits) {
        if (!isStreet(from) || !isStreet(to) || from == to
                || !isNight(night) || !isIn(credits, 1, 200)) {
            return INVALID_ARGUMENT;
        }
        int left = now.freeOf(from, night) - credits;
        if (left < 0) {
            return NOT_POSSIBLE;
        }
        remember();
        int giver = streetNight(from, night);
        int taker = streetNight(to, night);
        put(now.given, giver, at(now.given, giver) + credits);
        put(now.received, taker, at(now.received, taker) + credits);
        return left;
    }

    public int street(int street, int night, int what) {
        if (!isStreet(street) || !isNight(night)) {
            return INVALID_ARGUMENT;
        }
        switch (what) {
            case 0: return now.allowanceOf(street, night);
            case 1: return at(now.received, streetNight(street, night));
            case 2: return at(now.given, streetNight(street, night));
            case 3: return now.creditsOf(street, night);
            case 4: return now.usedOf(street, night);
            case 5: return now.validOfStreet(street, night);
            case 6: return at(now.winds, night);
            default: return INVALID_ARGUMENT;
        }
    }

    public int count(int what) {
        switch (what) {
            case 0: return now.craneCount;
            case 1: return now.validCount;
            case 2: return now.permitCount;
            case 3: return now.permitsWith(WITHDRAWN_BY_CALL);
            case 4: return now.permitsWith(WITHDRAWN_BY_ITSELF);
            case 5: return now.usedByAll();
            case 6: return now.sharingPairs();
            case 7: return pastCount;
            case 8: return text.length;
            case 10: return at(now.settings, STOP);
            case 11: return at(now.settings, ALLOWANCE);
            case 12: return at(now.settings, CLEARANCE);
            default: return INVALID_ARGUMENT;
        }
    }

    public int undo() {
        Site latest = pastAt(pastCount - 1);
        if (latest == null) {
            return NOT_POSSIBLE;
        }
        pastCount--;
        now.copyFrom(latest);
        return pastCount;
    }

    // ---- swings and permits

    public int covers(int crane, int swing, int x, int y) {
        Crane asked = now.craneAt(crane);
        if (asked == null || !isSwing(swing) || !isCell(x, y)) {
            return INVALID_ARGUMENT;
        }
        int cell = SIDE * y + x;
        long air = asked.airOf(swing, cell / CELLS_OF_PART);
        return (air >>> (cell % CELLS_OF_PART) & 1L) == 0 ? 0 : 1;
    }

    public int area(int crane, int swing) {
        Crane asked = now.craneAt(crane);
        if (asked == null || !isSwing(swing)) {
            return INVALID_ARGUMENT;
        }
        int cells = 0;
        for (int part = 0; part < PARTS; part++) {
            cells += Long.bitCount(asked.airOf(swing, part));
        }
        return cells;
    }

    public int refusal(int crane, int night, int hours, int swing) {
        Crane asked = now.craneAt(crane);
        if (asked == null || !isPlan(night, hours, swing)) {
            return INVALID_ARGUMENT;
        }
        return now.refusalOf(asked, night, hours, swing);
    }

    public int apply(int crane, int night, int hours, int swing) {
        Crane asked = now.craneAt(crane);
        if (asked == null || !isPlan(night, hours, swing)) {
            return INVALID_ARGUMENT;
        }
        if (now.refusalOf(asked, night, hours, swing) != 0) {
            return NOT_POSSIBLE;
        }
        if (!now.hasRoom()) {
            return LIMIT_REACHED;
        }
        remember();
        Permit granted = new Permit(now.permitCount, asked, night, hours, swing);
        now.grant(granted);
        return granted.number;
    }

    public int withdraw(int permit) {
        Permit ended = now.permitAt(permit);
        if (ended == null) {
            return INVALID_ARGUMENT;
        }
        if (at(now.states, ended.number) != VALID) {
            return NOT_POSSIBLE;
        }
        remember();
        now.end(ended, WITHDRAWN_BY_CALL);
        return now.useOf(ended.crane, ended.hours);
    }

    public int permit(int permit, int what) {
        Permit asked = now.permitAt(permit);
        if (asked == null) {
            return INVALID_ARGUMENT;
        }
        switch (what) {
            case 0: return asked.crane.number;
            case 1: return asked.night;
            case 2: return asked.hours;
            case 3: return asked.swing;
            case 4: return now.useOf(asked.crane, asked.hours);
            case 5: return at(now.states, asked.number);
            default: return INVALID_ARGUMENT;
        }
    }

    public int inOrder(int index) {
        if (index < 0) {
            return INVALID_ARGUMENT;
        }
        for (int i = 0; i < now.validCount; i++) {
            Permit permit = now.validAt(i);
            if (permit != null && now.validAhead(permit) == index) {
                return permit.number;
            }
        }
        return NOT_FOUND;
    }

    public int shares(int one, int other) {
        Permit first = now.permitAt(one);
        Permit second = now.permitAt(other);
        if (first == null || second == null) {
            return INVALID_ARGUMENT;
        }
        boolean sharing =
                now.shareAir(first.crane, first.night, first.hours, first.swing, second);
        return sharing ? 1 : 0;
    }

    public int inTheWay(int crane, int night, int hours, int swing) {
        Crane asked = now.craneAt(crane);
        if (asked == null || !isPlan(night, hours, swing)) {
            return INVALID_ARGUMENT;
        }
        int permit = now.lowestSharing(asked, night, hours, swing);
        return permit == NONE ? NOT_FOUND : permit;
    }

    public int firstFree(int crane, int swing, int many, int from) {
        Crane asked = now.craneAt(crane);
        if (asked == null || !isSwing(swing) || !isIn(many, 1, HOURS) || !isNight(from)) {
            return INVALID_ARGUMENT;
        }
        for (int night = from; night < NIGHTS; night++) {
            for (int first = 0; first + many <= HOURS; first++) {
                int hours = 10 * first + first + many - 1;
                if (now.refusalOf(asked, night, hours, swing) == 0) {
                    return 10 * night + first;
                }
            }
        }
        return NOT_FOUND;
    }

    // ---- texts

    public int type(int character) {
        if (!isIn(character, 32, 126)) {
            return INVALID_ARGUMENT;
        }
        if (text.length >= SIGNS) {
            return LIMIT_REACHED;
        }
        text.append((char) character);
        return text.length;
    }

    public int clearText() {
        int length = text.length;
        text.length = 0;
        return length;
    }

    public int fault(int what) {
        if (!isIn(what, 0, 1)) {
            return INVALID_ARGUMENT;
        }
        trial.copyFrom(now);
        int reason = tryText();
        if (reason == 0) {
            return NOT_FOUND;
        }
        return what == 0 ? text.start : reason;
    }

    public int enter() {
        trial.copyFrom(now);
        if (tryText() != 0) {
            return NOT_POSSIBLE;
        }
        remember();
        int entered = trial.permitCount - now.permitCount;
        now.copyFrom(trial);
        return entered;
    }

    /** Keeps the state ahead of a change, in the place of the oldest one if all are taken. */
    private void remember() {
        if (pastCount >= past.length) {
            dropOldest();
        }
        Site kept = pastAt(pastCount);
        if (kept != null) {
            kept.copyFrom(now);
            pastCount++;
        }
    }

    /** Its site goes to the end of the row, so that no new one is made for the next state. */
    private void dropOldest() {
        Site oldest = pastAt(0);
        for (int i = 1; i < past.length; i++) {
            past[i - 1] = past[i];
        }
        if (oldest != null) {
            past[past.length - 1] = oldest;
            pastCount = past.length - 1;
        }
    }

    /** The site for the state with so many older ones in the history, or null. */
    private Site pastAt(int index) {
        return index >= 0 && index < past.length ? past[index] : null;
    }

    /**
     * Grants the applications of the text on the trial site up to the first one that is not
     * possible, and tells its reason; text.start is its place then. Without a fault, 0.
     */
    private int tryText() {
        text.next = 0;
        for (int read = 0; read < SIGNS && text.next < text.length; read++) {
            int reason = tryApplication();
            if (reason != 0) {
                return reason;
            }
        }
        return 0;
    }

    private int tryApplication() {
        if (!text.readApplication()) {
            return MALFORMED;
        }
        Crane crane = trial.craneAt(text.crane);
        if (crane == null || !isPlan(text.night, text.hours, text.swing)) {
            return OUT_OF_RANGE;
        }
        int reason = trial.refusalOf(crane, text.night, text.hours, text.swing);
        if (reason != 0) {
            return reason;
        }
        if (!trial.hasRoom()) {
            return NO_ROOM;
        }
        trial.grant(new Permit(trial.permitCount, crane, text.night, text.hours, text.swing));
        return 0;
    }

    private static boolean isIn(int value, int least, int most) {
        return value >= least && value <= most;
    }

    private static boolean isCell(int x, int y) {
        return isIn(x, 0, SIDE - 1) && isIn(y, 0, SIDE - 1);
    }

    private static boolean isStreet(int street) {
        return isIn(street, 0, STREETS - 1);
    }

    private static boolean isNight(int night) {
        return isIn(night, 0, NIGHTS - 1);
    }

    private static boolean isSwing(int swing) {
        return isIn(swing, 1, (1 << DIRECTIONS) - 1);
    }

    /** What all applications have in common, beside the crane. */
    private static boolean isPlan(int night, int hours, int swing) {
        return isNight(night) && isIn(hours, 0, 99) && hours / 10 <= hours % 10
                && isSwing(swing);
    }

    private static int streetNight(int street, int night) {
        return NIGHTS * street + night;
    }

    /** All rows are read here, so that no index goes untested. */
    private static int at(int[] row, int index) {
        return index >= 0 && index < row.length ? row[index] : 0;
    }

    /** All rows are written here, so that no index goes untested. */
    private static void put(int[] row, int index, int value) {
        if (index >= 0 && index < row.length) {
            row[index] = value;
        }
    }

    /** A crane as it was set up; the site keeps its noise, since that changes. */
    private static final class Crane {
        final int number;
        final int x;
        final int y;
        final int reach;
        final int height;
        final int street;
        /** The cells of each direction, reckoned once: swings are compared far more often. */
        private final long[] eighths = new long[DIRECTIONS * PARTS];

        Crane(int number, int x, int y, int reach, int height, int street) {
            this.number = number;
            this.x = x;
            this.y = y;
            this.reach = reach;
            this.height = height;
            this.street = street;
            for (int cell = 0; cell < PARTS * CELLS_OF_PART; cell++) {
                int dx = cell % SIDE - x;
                int dy = cell / SIDE - y;
                if (dx == 0 && dy == 0) {
                    markOwnCell(cell);
                } else if (dx * dx + dy * dy <= reach * reach) {
                    mark(directionOf(dx, dy), cell);
                }
            }
        }

        /** Any swing has a direction and covers this cell: so it goes with each of them. */
        private void markOwnCell(int cell) {
            for (int direction = 0; direction < DIRECTIONS; direction++) {
                mark(direction, cell);
            }
        }

        private void mark(int direction, int cell) {
            int index = PARTS * direction + cell / CELLS_OF_PART;
            if (index >= 0 && index < eighths.length) {
                eighths[index] |= 1L << (cell % CELLS_OF_PART);
            }
        }

        private static int directionOf(int dx, int dy) {
            if (dx > 0 && dy >= 0) {
                return dy < dx ? 0 : 1;
            }
            if (dy > 0) {
                return -dx < dy ? 2 : 3;
            }
            if (dx < 0) {
                return -dy < -dx ? 4 : 5;
            }
            return dx < -dy ? 6 : 7;
        }

        /** The cells that a swing covers in one part of the ground, as bits. */
        long airOf(int swing, int part) {
            long air = 0;
            for (int direction = 0; direction < DIRECTIONS; direction++) {
                int index = PARTS * direction + part;
                boolean swung = (swing >> direction & 1) != 0;
                if (swung && index >= 0 && index < eighths.length) {
                    air |= eighths[index];
                }
            }
            return air;
        }
    }

    /** A permit as it was granted; the site keeps whether it is valid, since that changes. */
    private static final class Permit {
        final int number;
        final Crane crane;
        final int night;
        final int hours;
        final int first;
        final int last;
        final int swing;

        Permit(int number, Crane crane, int night, int hours, int swing) {
            this.number = number;
            this.crane = crane;
            this.night = night;
            this.hours = hours;
            this.first = hours / 10;
            this.last = hours % 10;
            this.swing = swing;
        }

        boolean isFor(Crane other) {
            return crane.number == other.number;
        }

        boolean isOf(int street, int night) {
            return crane.street == street && this.night == night;
        }

        boolean meets(int night, int hours) {
            boolean ahead = last < hours / 10;
            boolean behind = first > hours % 10;
            return this.night == night && !ahead && !behind;
        }

        boolean isAheadOf(Permit other) {
            if (night != other.night) {
                return night < other.night;
            }
            return first == other.first ? number < other.number : first < other.first;
        }
    }

    /** All that undo() brings back, and what follows from it. */
    private static final class Site {
        private final Crane[] cranes = new Crane[CRANES];
        int craneCount = 0;
        final int[] noises = new int[CRANES];
        final int[] settings = {100, 40, 5};
        final int[] winds = new int[NIGHTS];
        final int[] allowances = new int[STREETS * NIGHTS];
        final int[] received = new int[STREETS * NIGHTS];
        final int[] given = new int[STREETS * NIGHTS];
        private final Permit[] permits = new Permit[PERMITS];
        int permitCount = 0;
        final int[] states = new int[PERMITS];
        /** The valid permits again, by numbers: most questions are about these few. */
        private final Permit[] valid = new Permit[VALID_PERMITS];
        int validCount = 0;

        Site() {
            Arrays.fill(allowances, NOT_SET);
        }

        void copyFrom(Site other) {
            System.arraycopy(other.cranes, 0, cranes, 0, CRANES);
            craneCount = other.craneCount;
            System.arraycopy(other.noises, 0, noises, 0, CRANES);
            System.arraycopy(other.settings, 0, settings, 0, settings.length);
            System.arraycopy(other.winds, 0, winds, 0, NIGHTS);
            System.arraycopy(other.allowances, 0, allowances, 0, STREETS * NIGHTS);
            System.arraycopy(other.received, 0, received, 0, STREETS * NIGHTS);
            System.arraycopy(other.given, 0, given, 0, STREETS * NIGHTS);
            System.arraycopy(other.permits, 0, permits, 0, PERMITS);
            permitCount = other.permitCount;
            System.arraycopy(other.states, 0, states, 0, PERMITS);
            System.arraycopy(other.valid, 0, valid, 0, VALID_PERMITS);
            validCount = other.validCount;
        }

        /** The crane, or null if there is none with this number. */
        Crane craneAt(int number) {
            boolean there = number >= 0 && number < craneCount && number < cranes.length;
            return there ? cranes[number] : null;
        }

        /** The permit, or null if none was granted with this number. */
        Permit permitAt(int number) {
            boolean there = number >= 0 && number < permitCount && number < permits.length;
            return there ? permits[number] : null;
        }

        /** The valid permit with so many lower ones, or null. */
        Permit validAt(int index) {
            boolean there = index >= 0 && index < validCount && index < valid.length;
            return there ? valid[index] : null;
        }

        boolean hasCraneIn(int x, int y) {
            for (int i = 0; i < craneCount; i++) {
                Crane crane = craneAt(i);
                if (crane != null && crane.x == x && crane.y == y) {
                    return true;
                }
            }
            return false;
        }

        void addCrane(Crane crane, int noise) {
            if (craneCount >= 0 && craneCount < cranes.length) {
                cranes[craneCount] = crane;
                put(noises, craneCount, noise);
                craneCount++;
            }
        }

        int stopWindOf(Crane crane) {
            return at(settings, STOP) - crane.height / 2;
        }

        boolean mustStop(Crane crane, int night) {
            return at(winds, night) >= stopWindOf(crane);
        }

        int allowanceOf(int street, int night) {
            int own = at(allowances, streetNight(street, night));
            return own == NOT_SET ? at(settings, ALLOWANCE) : own;
        }

        int creditsOf(int street, int night) {
            int index = streetNight(street, night);
            return allowanceOf(street, night) + at(received, index) - at(given, index);
        }

        int useOf(Crane crane, int hours) {
            return (hours % 10 - hours / 10 + 1) * at(noises, crane.number);
        }

        int usedOf(int street, int night) {
            int used = 0;
            for (int i = 0; i < validCount; i++) {
                Permit permit = validAt(i);
                if (permit != null && permit.isOf(street, night)) {
                    used += useOf(permit.crane, permit.hours);
                }
            }
            return used;
        }

        int freeOf(int street, int night) {
            return creditsOf(street, night) - usedOf(street, night);
        }

        int usedByAll() {
            int used = 0;
            for (int i = 0; i < validCount; i++) {
                Permit permit = validAt(i);
                if (permit != null) {
                    used += useOf(permit.crane, permit.hours);
                }
            }
            return used;
        }

        int validOfCrane(Crane crane) {
            int found = 0;
            for (int i = 0; i < validCount; i++) {
                Permit permit = validAt(i);
                if (permit != null && permit.isFor(crane)) {
                    found++;
                }
            }
            return found;
        }

        int validOfStreet(int street, int night) {
            int found = 0;
            for (int i = 0; i < validCount; i++) {
                Permit permit = validAt(i);
                if (permit != null && permit.isOf(street, night)) {
                    found++;
                }
            }
            return found;
        }

        int validAhead(Permit permit) {
            int ahead = 0;
            for (int i = 0; i < validCount; i++) {
                Permit other = validAt(i);
                if (other != null && other.isAheadOf(permit)) {
                    ahead++;
                }
            }
            return ahead;
        }

        int permitsWith(int state) {
            int found = 0;
            for (int i = 0; i < permitCount; i++) {
                if (at(states, i) == state) {
                    found++;
                }
            }
            return found;
        }

        boolean shareAir(Crane crane, int night, int hours, int swing, Permit other) {
            if (other.isFor(crane) || !other.meets(night, hours)) {
                return false;
            }
            int apart = Math.abs(crane.height - other.crane.height);
            if (apart >= at(settings, CLEARANCE)) {
                return false;
            }
            for (int part = 0; part < PARTS; part++) {
                if ((crane.airOf(swing, part) & other.crane.airOf(other.swing, part)) != 0) {
                    return true;
                }
            }
            return false;
        }

        int lowestSharing(Crane crane, int night, int hours, int swing) {
            for (int i = 0; i < validCount; i++) {
                Permit other = validAt(i);
                if (other != null && shareAir(crane, night, hours, swing, other)) {
                    return other.number;
                }
            }
            return NONE;
        }

        int sharingPairs() {
            int pairs = 0;
            for (int i = 0; i < validCount; i++) {
                Permit permit = validAt(i);
                for (int k = i + 1; permit != null && k < validCount; k++) {
                    Permit other = validAt(k);
                    if (other != null && shareAir(permit.crane, permit.night, permit.hours,
                            permit.swing, other)) {
                        pairs++;
                    }
                }
            }
            return pairs;
        }

        private boolean isBusy(Crane crane, int night, int hours) {
            for (int i = 0; i < validCount; i++) {
                Permit permit = validAt(i);
                if (permit != null && permit.isFor(crane) && permit.meets(night, hours)) {
                    return true;
                }
            }
            return false;
        }

        int refusalOf(Crane crane, int night, int hours, int swing) {
            if (isBusy(crane, night, hours)) {
                return OWN_PERMIT;
            }
            if (mustStop(crane, night)) {
                return MUST_STOP;
            }
            if (lowestSharing(crane, night, hours, swing) != NONE) {
                return SHARED_AIR;
            }
            int used = usedOf(crane.street, night) + useOf(crane, hours);
            return used > creditsOf(crane.street, night) ? CREDITS_SHORT : 0;
        }

        boolean hasRoom() {
            return validCount < VALID_PERMITS && permitCount < PERMITS;
        }

        void grant(Permit permit) {
            if (validCount >= 0 && validCount < valid.length
                    && permitCount >= 0 && permitCount < permits.length) {
                permits[permitCount] = permit;
                put(states, permitCount, VALID);
                permitCount++;
                valid[validCount] = permit;
                validCount++;
            }
        }

        void end(Permit permit, int state) {
            put(states, permit.number, state);
            int kept = 0;
            for (int i = 0; i < validCount; i++) {
                Permit other = validAt(i);
                if (other != null && other.number != permit.number && kept < valid.length) {
                    valid[kept] = other;
                    kept++;
                }
            }
            validCount = kept;
        }

        /**
         * Withdraws from the latest back what wind or credits no longer allow, and tells how many.
         * Ahead of each change all valid permits are allowed, so only what it brought about falls.
         */
        int withdrawFailing() {
            int ended = 0;
            for (int i = validCount - 1; i >= 0; i--) {
                Permit permit = validAt(i);
                if (permit != null && (mustStop(permit.crane, permit.night)
                        || freeOf(permit.crane.street, permit.night) < 0)) {
                    end(permit, WITHDRAWN_BY_ITSELF);
                    ended++;
                }
            }
            return ended;
        }
    }

    /** The text, with the application that was last read from it. */
    private static final class Text {
        private final char[] signs = new char[SIGNS];
        int length = 0;
        int start = 0;
        int next = 0;
        private boolean formed = true;
        int crane = 0;
        int night = 0;
        int hours = 0;
        int swing = 0;

        void append(char sign) {
            if (length >= 0 && length < signs.length) {
                signs[length] = sign;
                length++;
            }
        }

        /** Reads on from next; false if no application of the right form stands there. */
        boolean readApplication() {
            start = next;
            formed = true;
            crane = readNumber(1);
            readSign('n');
            night = readNumber(2);
            readSign('h');
            int first = readNumber(1);
            readSign('-');
            int last = readNumber(1);
            hours = 10 * first + last;
            readSign('s');
            swing = readNumber(3);
            readSign(';');
            return formed;
        }

        private void readSign(char sign) {
            if (signAt(next) == sign) {
                next++;
            } else {
                formed = false;
            }
        }

        private int readNumber(int mostDigits) {
            int number = 0;
            int digits = 0;
            while (digits < mostDigits && isIn(signAt(next), '0', '9')) {
                number = 10 * number + signAt(next) - '0';
                digits++;
                next++;
            }
            formed = formed && digits > 0;
            return number;
        }

        /** The sign, or 0, which no text holds, behind the end. */
        private int signAt(int index) {
            return index >= 0 && index < length && index < signs.length ? signs[index] : 0;
        }
    }
}
