import java.util.Random;

/** Long runs of calls, the same ones each time, on the class and on the literal Model. */
public final class ModelTest {
    private static final int CALLS = 512;
    private static final String[] NAMES = {"crane", "noise", "craneOf", "set", "wind", "allow",
        "transfer", "street", "count", "undo", "covers", "area", "refusal", "apply", "withdraw",
        "permit", "inOrder", "shares", "inTheWay", "firstFree", "type", "clearText", "fault",
        "enter"};

    /** How often each call comes, by NAMES; a row for each kind of run. */
    private static final int[][] WEIGHTS = {
        {2, 2, 2, 2, 3, 3, 4, 4, 5, 3, 2, 2, 6, 14, 3, 4, 3, 4, 4, 3, 12, 1, 3, 3},
        {1, 0, 1, 0, 0, 0, 1, 1, 3, 0, 1, 1, 2, 40, 1, 2, 2, 2, 2, 2, 6, 0, 2, 3},
        {1, 3, 1, 5, 3, 8, 8, 6, 3, 2, 0, 0, 3, 20, 2, 2, 1, 1, 1, 2, 0, 0, 0, 0},
        {1, 1, 1, 1, 1, 1, 1, 1, 2, 2, 1, 1, 2, 5, 1, 1, 1, 1, 1, 1, 30, 3, 8, 8},
        {0, 0, 0, 0, 0, 0, 0, 0, 1, 0, 0, 0, 1, 55, 35, 1, 1, 1, 1, 1, 0, 0, 2, 2},
    };

    private final Random random;
    private final int kind;
    /** Whether permits are to be refused seldom, so that their number comes to its limits. */
    private final boolean roomy;
    private final int nights;
    private final CranePermits real = new CranePermits();
    private final Model model = new Model();
    private String pending = "";
    private static final int[] SEEN = new int[40];

    private ModelTest(long seed) {
        random = new Random(seed);
        kind = (int) (seed % WEIGHTS.length);
        roomy = kind == 1 || kind == 4;
        pending = kind == 4 ? "0n20h3-3s1;" : "";
        nights = roomy ? 11 : 1 + random.nextInt(4);
    }

    public static void main(String[] args) {
        int runs = args.length > 1 ? Integer.parseInt(args[1]) : 600;
        for (long seed = 0; seed < runs; seed++) {
            new ModelTest(seed).run(seed);
        }
        Due.is("runs with 24 valid permits", SEEN[0] > 0 ? 1 : 0, 1);
        Due.is("runs with 200 numbers", SEEN[1] > 0 ? 1 : 0, 1);
        Due.is("runs with shared air", SEEN[2] > 0 ? 1 : 0, 1);
        Due.is("runs with credits below 0", SEEN[3] > 0 ? 1 : 0, 1);
        for (int reason = 1; reason <= 12; reason++) {
            boolean told = reason <= 5 || reason >= 11;
            Due.is("faults with reason " + reason, told && SEEN[20 + reason] > 0 || !told ? 1 : 0, 1);
        }
        Due.end();
    }

    private void run(long seed) {
        for (int call = 0; call < CALLS; call++) {
            int name = call < 4 ? 0 : pending.isEmpty() ? pick() : 20;
            if (call == 4 && roomy) {
                same(seed, call, 3, new int[] {1, 200});
            } else if (call == 5 && kind == 4) {
                same(seed, call, 3, new int[] {2, 0});
            } else {
                same(seed, call, name, arguments(name));
            }
        }
    }

    private int pick() {
        int all = 0;
        for (int weight : WEIGHTS[kind]) {
            all += weight;
        }
        int left = random.nextInt(all);
        for (int name = 0; name < NAMES.length; name++) {
            left -= WEIGHTS[kind][name];
            if (left < 0) {
                return name;
            }
        }
        return 0;
    }

    /** The number from least to most; now and then one beside the range. */
    private int from(int least, int most) {
        int dice = random.nextInt(60);
        if (dice == 0) {
            return least - 1;
        }
        if (dice == 1) {
            return most + 1;
        }
        return dice == 2 ? random.nextInt() : least + random.nextInt(most - least + 1);
    }

    private int night() {
        return random.nextInt(40) == 0 ? from(0, 29) : from(0, nights);
    }

    private int hours() {
        int first = random.nextInt(10);
        int last = Math.min(9, first + random.nextInt(roomy ? 2 : 5));
        return random.nextInt(30) == 0 ? from(0, 99) : 10 * first + last;
    }

    private int swing() {
        int dice = random.nextInt(4);
        return dice == 0 ? 255 : dice == 1 ? 1 << random.nextInt(8) : from(1, 255);
    }

    private int knownCrane() {
        return from(0, Math.max(0, model.count(0) - 1));
    }

    private int knownPermit() {
        if (roomy && model.count(1) > 0 && random.nextInt(20) > 0) {
            return model.inOrder(random.nextInt(model.count(1)));
        }
        return from(0, Math.max(0, model.count(2) - 1));
    }

    private int allowance() {
        return random.nextInt(3) == 0 ? from(0, 200) : from(0, 60);
    }

    private int[] arguments(int name) {
        switch (NAMES[name]) {
            case "crane": return new int[] {from(0, 15), from(0, 15), from(1, 8),
                random.nextBoolean() ? from(10, 99) : from(40, 50), from(0, 3),
                roomy ? from(1, 2) : from(1, 9)};
            case "noise": return new int[] {knownCrane(), from(1, 9)};
            case "craneOf": return new int[] {knownCrane(), from(0, 7)};
            case "set": return setting();
            case "wind": return new int[] {night(), random.nextBoolean() ? from(0, 40) : from(0, 99)};
            case "allow": return new int[] {from(0, 3), night(), allowance()};
            case "transfer": return new int[] {from(0, 3), from(0, 3), night(),
                random.nextBoolean() ? from(1, 20) : from(1, 200)};
            case "street": return new int[] {from(0, 3), night(), from(0, 6)};
            case "count": return new int[] {from(0, 12)};
            case "covers": return new int[] {knownCrane(), swing(), from(0, 15), from(0, 15)};
            case "area": return new int[] {knownCrane(), swing()};
            case "refusal": case "apply": case "inTheWay":
                return new int[] {knownCrane(), night(), hours(), swing()};
            case "withdraw": return new int[] {knownPermit()};
            case "permit": return new int[] {knownPermit(), from(0, 5)};
            case "inOrder": return new int[] {from(0, model.count(1))};
            case "shares": return new int[] {knownPermit(), knownPermit()};
            case "firstFree": return new int[] {knownCrane(), swing(), from(1, 10), night()};
            case "type": return new int[] {nextSign()};
            case "fault": return new int[] {from(0, 1)};
            default: return new int[0];
        }
    }

    private int[] setting() {
        int what = from(0, 2);
        int value = what == 0 ? from(50, 150) : what == 1 ? allowance() : from(0, 50);
        return new int[] {what, value};
    }

    /** Applications sign by sign, most of them well formed. */
    private int nextSign() {
        if (random.nextInt(80) == 0) {
            return from(32, 126);
        }
        if (pending.isEmpty()) {
            int hours = hours() % 100;
            String night = random.nextInt(9) == 0 ? "0" + random.nextInt(10) : "" + night();
            pending = knownCrane() + "n" + night + "h" + hours / 10 + "-" + hours % 10 + "s"
                    + (random.nextInt(9) == 0 ? "01" : "" + swing()) + ";";
        }
        int sign = pending.charAt(0);
        pending = pending.substring(1);
        return sign;
    }

    private void same(long seed, int call, int name, int[] a) {
        int[] six = java.util.Arrays.copyOf(a, 6);
        long got = onReal(NAMES[name], six);
        long want = onModel(NAMES[name], six);
        Due.is("seed " + seed + ", call " + call + ": " + NAMES[name]
                + java.util.Arrays.toString(a), got, want);
        note(NAMES[name], six, want);
    }

    private void note(String name, int[] a, long want) {
        SEEN[0] += model.count(1) == 24 ? 1 : 0;
        SEEN[1] += model.count(2) == 200 ? 1 : 0;
        SEEN[2] += name.equals("count") && a[0] == 6 && want > 0 ? 1 : 0;
        SEEN[3] += name.equals("street") && a[2] == 3 && want < 0 && want > -1000 ? 1 : 0;
        if (name.equals("fault") && a[0] == 1 && want > 0) {
            SEEN[20 + (int) want]++;
        }
    }

    private long onReal(String name, int[] a) {
        switch (name) {
            case "crane": return real.crane(a[0], a[1], a[2], a[3], a[4], a[5]);
            case "noise": return real.noise(a[0], a[1]);
            case "craneOf": return real.craneOf(a[0], a[1]);
            case "set": return real.set(a[0], a[1]);
            case "wind": return real.wind(a[0], a[1]);
            case "allow": return real.allow(a[0], a[1], a[2]);
            case "transfer": return real.transfer(a[0], a[1], a[2], a[3]);
            case "street": return real.street(a[0], a[1], a[2]);
            case "count": return real.count(a[0]);
            case "undo": return real.undo();
            case "covers": return real.covers(a[0], a[1], a[2], a[3]);
            case "area": return real.area(a[0], a[1]);
            case "refusal": return real.refusal(a[0], a[1], a[2], a[3]);
            case "apply": return real.apply(a[0], a[1], a[2], a[3]);
            case "withdraw": return real.withdraw(a[0]);
            case "permit": return real.permit(a[0], a[1]);
            case "inOrder": return real.inOrder(a[0]);
            case "shares": return real.shares(a[0], a[1]);
            case "inTheWay": return real.inTheWay(a[0], a[1], a[2], a[3]);
            case "firstFree": return real.firstFree(a[0], a[1], a[2], a[3]);
            case "type": return real.type(a[0]);
            case "clearText": return real.clearText();
            case "fault": return real.fault(a[0]);
            default: return real.enter();
        }
    }

    private long onModel(String name, int[] a) {
        switch (name) {
            case "crane": return model.crane(a[0], a[1], a[2], a[3], a[4], a[5]);
            case "noise": return model.noise(a[0], a[1]);
            case "craneOf": return model.craneOf(a[0], a[1]);
            case "set": return model.set(a[0], a[1]);
            case "wind": return model.wind(a[0], a[1]);
            case "allow": return model.allow(a[0], a[1], a[2]);
            case "transfer": return model.transfer(a[0], a[1], a[2], a[3]);
            case "street": return model.street(a[0], a[1], a[2]);
            case "count": return model.count(a[0]);
            case "undo": return model.undo();
            case "covers": return model.covers(a[0], a[1], a[2], a[3]);
            case "area": return model.area(a[0], a[1]);
            case "refusal": return model.refusal(a[0], a[1], a[2], a[3]);
            case "apply": return model.apply(a[0], a[1], a[2], a[3]);
            case "withdraw": return model.withdraw(a[0]);
            case "permit": return model.permit(a[0], a[1]);
            case "inOrder": return model.inOrder(a[0]);
            case "shares": return model.shares(a[0], a[1]);
            case "inTheWay": return model.inTheWay(a[0], a[1], a[2], a[3]);
            case "firstFree": return model.firstFree(a[0], a[1], a[2], a[3]);
            case "type": return model.type(a[0]);
            case "clearText": return model.clearText();
            case "fault": return model.fault(a[0]);
            default: return model.enter();
        }
    }
}
