/** Boats with lanterns along a coast, each of which keeps to one lighthouse until another is clearly brighter. */
public final class LanternBoats {
    public static final int NONE = -1;

    private static final int PLACES = 200;
    private static final int MOST_LIGHTS = 6;
    private static final int MOST_BOATS = 8;
    private static final int MOST_AT_A_LIGHT = 6;
    private static final int MOST_SPEED = 6;
    private static final int MOST_LEANING = 30;
    private static final int LEAST_STRENGTH = 10;
    private static final int MOST_STRENGTH = 99;
    private static final int MOST_N = 20;
    private static final int MOST_TALK = 99;
    private static final int MOST_TICKS = 60;

    private static final int STEADY = 0;
    private static final int BLINKING = 1;
    private static final int ONE_SIDED = 2;

    // The settings by their numbers.
    private static final int MARGIN = 0;
    private static final int LEAST_TIME = 1;
    private static final int TOO_DARK = 2;
    private static final int SOON_BACK = 3;
    private static final int SETTINGS = 4;
    private static final int[] SETTING_LEAST = {0, 1, 1, 0};
    private static final int[] SETTING_MOST = {100, 10, 300, 50};
    private static final int[] SETTING_FIRST = {10, 3, 60, 12};

    // The numbers of about() that forecasts compare.
    private static final int NUMBERS = 10;
    private static final int HANDED = 5;
    private static final int BACK = 6;
    private static final int LOST = 8;

    private static final int FORECAST = 200;
    private static final int MOST_BEST_MARGIN_TICKS = 100;
    private static final int MARGIN_STEP = 5;
    private static final int MOST_MARGIN_TRIED = 60;
    private static final int MOST_COMMANDS = 3;
    private static final long GROUP = 1000000L;
    private static final int MOST_TURNS = 60;
    private static final int MOST_SHOWN = 99;

    // What stands against an action; scripts and texts leave out what the face answers with an exception.
    private static final int FINE = 0;
    private static final int NOT_THERE = 1;
    private static final int OUT_OF_RANGE = 2;
    private static final int WRONG_STATE = 3;

    private final Text text;
    private final Coast coast;
    private final Coast trial;
    private final Memory memory;

    public LanternBoats() {
        text = new Text();
        coast = new Coast();
        trial = new Coast();
        memory = new Memory();
    }

    // ---- text

    public int append(int c) throws IllegalArgumentException, IllegalStateException {
        if (c < 0 || c > 255) {
            throw new IllegalArgumentException("a character code is 0 to 255");
        }
        if (text.isFull()) {
            throw new IllegalStateException("the text is full");
        }
        return text.add(c);
    }

    public int clearText() {
        return text.empty();
    }

    public int errorPosition() {
        return text.errorPlace();
    }

    public int load() throws IllegalStateException {
        if (text.errorPlace() != NONE) {
            throw new IllegalStateException("the text is not a coast");
        }
        coast.reset();
        memory.reset();
        int leftOut = 0;
        boolean going = text.readHead();
        for (int i = 0; i < Text.MOST_SIGNS && going; i++) {
            going = text.hasMore() && text.readCommand();
            if (going && !obeyCommand()) {
                leftOut++;
            }
        }
        return leftOut;
    }

    private boolean obeyCommand() {
        switch (text.letter) {
            case 'l':
                return coast.tryLight(text.number(0), text.number(1), text.number(2),
                        text.number(3), text.number(4), text.number(5));
            case 'b':
                return coast.tryBoat(text.number(0), text.number(1) - MOST_SPEED);
            case 'k':
                return coast.tryTalk(text.number(0), text.number(1));
            case 'v':
                return coast.trySteer(text.number(0), text.number(1) - MOST_SPEED);
            case 'm':
                return coast.trySet(MARGIN, text.number(0));
            case 't':
                coast.pass(text.number(0));
                return true;
            default:
                return false;
        }
    }

    // ---- what there is

    public int about(int what) throws IllegalArgumentException {
        if (what < 0 || what >= NUMBERS) {
            throw new IllegalArgumentException("what is 0 to 9");
        }
        return coast.numberOf(what);
    }

    public int lightOf(int l, int what) throws IndexOutOfBoundsException, IllegalArgumentException {
        Light light = coast.lightAt(l);
        if (light == null) {
            throw new IndexOutOfBoundsException("no such lighthouse");
        }
        if (what < 0 || what >= Light.NUMBERS) {
            throw new IllegalArgumentException("what is 0 to 8");
        }
        return light.numberOf(what);
    }

    public int boatOf(int b, int what) throws IndexOutOfBoundsException, IllegalArgumentException {
        Boat boat = coast.boatAt(b);
        if (boat == null) {
            throw new IndexOutOfBoundsException("no such boat");
        }
        if (what < 0 || what >= Boat.NUMBERS) {
            throw new IllegalArgumentException("what is 0 to 8");
        }
        return boat.numberOf(what);
    }

    public int brightness(int l, int p) throws IndexOutOfBoundsException {
        Light light = coast.lightAt(l);
        if (light == null || !isPlace(p)) {
            throw new IndexOutOfBoundsException("no such lighthouse or place");
        }
        return light.brightnessAt(p, coast.time);
    }

    public int bestAt(int p, int what) throws IndexOutOfBoundsException, IllegalArgumentException {
        if (!isPlace(p)) {
            throw new IndexOutOfBoundsException("no such place");
        }
        if (what != 0 && what != 1) {
            throw new IllegalArgumentException("what is 0 or 1");
        }
        int best = coast.brightest(p);
        if (what == 0) {
            return best;
        }
        Light light = coast.lightAt(best);
        return light == null ? 0 : light.worthAt(p, coast.time);
    }

    public int setting(int what) throws IllegalArgumentException {
        if (!isSetting(what)) {
            throw new IllegalArgumentException("what is 0 to 3");
        }
        return coast.settingOf(what);
    }

    // ---- actions

    public int light(int p, int strength, int kind, int n, int boats, int reserved)
            throws IndexOutOfBoundsException, IllegalArgumentException, IllegalStateException {
        throwFault(coast.lightFault(p, strength, kind, n, boats, reserved));
        memory.remember(coast);
        return coast.addLight(p, strength, kind, n, boats, reserved);
    }

    public int boat(int p, int speed)
            throws IndexOutOfBoundsException, IllegalArgumentException, IllegalStateException {
        throwFault(coast.boatFault(p, speed));
        memory.remember(coast);
        return coast.addBoat(p, speed);
    }

    public int steer(int b, int speed) throws IndexOutOfBoundsException, IllegalArgumentException {
        throwFault(coast.steerFault(b, speed));
        memory.remember(coast);
        return coast.putSpeed(b, speed);
    }

    public int talk(int b, int n)
            throws IndexOutOfBoundsException, IllegalArgumentException, IllegalStateException {
        throwFault(coast.talkFault(b, n));
        memory.remember(coast);
        return coast.putTalk(b, n);
    }

    public int lean(int l, int v) throws IndexOutOfBoundsException, IllegalArgumentException {
        throwFault(coast.leanFault(l, v));
        memory.remember(coast);
        return coast.putLeaning(l, v);
    }

    public int dim(int l, int v) throws IndexOutOfBoundsException, IllegalArgumentException {
        throwFault(coast.dimFault(l, v));
        memory.remember(coast);
        return coast.putStrength(l, v);
    }

    public int set(int what, int v) throws IllegalArgumentException {
        if (!isSettingValue(what, v)) {
            throw new IllegalArgumentException("no such setting, or not a value of it");
        }
        memory.remember(coast);
        return coast.putSetting(what, v);
    }

    public int ticks(int n) throws IllegalArgumentException {
        if (!isTickCount(n)) {
            throw new IllegalArgumentException("n is 1 to 60");
        }
        memory.remember(coast);
        int before = coast.handed;
        coast.pass(n);
        return coast.handed - before;
    }

    public int undo() throws IllegalStateException {
        if (!memory.hasStates()) {
            throw new IllegalStateException("no state is remembered");
        }
        return memory.takeBack(coast);
    }

    // ---- what would be

    public int handedIn(int b, int what) throws IndexOutOfBoundsException, IllegalArgumentException {
        Boat boat = coast.boatAt(b);
        if (boat == null) {
            throw new IndexOutOfBoundsException("no such boat");
        }
        if (what < 0 || what > 2) {
            throw new IllegalArgumentException("what is 0 to 2");
        }
        int ticks = ticksUntilHanded(b, boat.handed);
        Boat then = trial.boatAt(b);
        if (ticks == NONE || then == null) {
            return NONE;
        }
        if (what == 0) {
            return ticks;
        }
        return what == 1 ? then.keeper : then.place;
    }

    /** Leaves the trial as it is right behind the tick in which the boat is handed on. */
    private int ticksUntilHanded(int b, int handedBefore) {
        trial.copyFrom(coast);
        for (int ticks = 1; ticks <= FORECAST; ticks++) {
            trial.pass(1);
            Boat boat = trial.boatAt(b);
            if (boat != null && boat.handed != handedBefore) {
                return ticks;
            }
        }
        return NONE;
    }

    public int ifMargin(int v, int n, int what) throws IllegalArgumentException {
        if (!isSettingValue(MARGIN, v)) {
            throw new IllegalArgumentException("v is 0 to 100");
        }
        if (n < 1 || n > FORECAST) {
            throw new IllegalArgumentException("n is 1 to 200");
        }
        if (what < 0 || what > 3) {
            throw new IllegalArgumentException("what is 0 to 3");
        }
        tryMargin(v, n);
        return gained(HANDED + what);
    }

    private void tryMargin(int v, int n) {
        trial.copyFrom(coast);
        trial.putSetting(MARGIN, v);
        trial.pass(n);
    }

    /** How much greater the number of about() has become in the trial. */
    private int gained(int number) {
        return trial.numberOf(number) - coast.numberOf(number);
    }

    public int bestMargin(int n) throws IllegalArgumentException {
        if (n < 1 || n > MOST_BEST_MARGIN_TICKS) {
            throw new IllegalArgumentException("n is 1 to 100");
        }
        int best = NONE;
        int bestHarm = 0;
        int bestHanded = 0;
        for (int v = 0; v <= MOST_MARGIN_TRIED; v += MARGIN_STEP) {
            tryMargin(v, n);
            int harm = gained(BACK) + gained(LOST);
            int handed = gained(HANDED);
            if (best == NONE || harm < bestHarm || (harm == bestHarm && handed < bestHanded)) {
                best = v;
                bestHarm = harm;
                bestHanded = handed;
            }
        }
        return best;
    }

    public int dark() {
        int places = 0;
        for (int p = 0; p < PLACES; p++) {
            if (coast.isDark(p)) {
                places++;
            }
        }
        return places;
    }

    public int border(int k) throws IllegalArgumentException {
        if (k < 0) {
            throw new IllegalArgumentException("k is negative");
        }
        int found = 0;
        int before = coast.brightest(0);
        for (int p = 1; p < PLACES; p++) {
            int here = coast.brightest(p);
            if (here != before) {
                if (found == k) {
                    return p;
                }
                found++;
            }
            before = here;
        }
        return NONE;
    }

    public int room() {
        return coast.freePlaces();
    }

    // ---- scripts, simulations

    public int runScript(int n, long script) throws IllegalArgumentException {
        if (n < 1 || n > MOST_COMMANDS) {
            throw new IllegalArgumentException("n is 1 to 3");
        }
        if (script < 0 || withoutGroups(script, n) > 0) {
            throw new IllegalArgumentException("the script is negative or too long");
        }
        trial.copyFrom(coast);
        for (int i = 0; i < n; i++) {
            if (!runCommand((int) (withoutGroups(script, n - 1 - i) % GROUP))) {
                return i;
            }
        }
        return NONE;
    }

    private static long withoutGroups(long script, int groups) {
        long rest = script;
        for (int i = 0; i < groups; i++) {
            rest /= GROUP;
        }
        return rest;
    }

    /** The digits d3 to d6 are read as one number, so that a bound on it asks for the zeros before it. */
    private boolean runCommand(int group) {
        int number = group / 10000 % 10;
        int value = group % 10000;
        switch (group / 100000) {
            case 1:
                if (number != 0 || !isTickCount(value)) {
                    return false;
                }
                trial.pass(value);
                return true;
            case 2:
                return trial.trySteer(number, value - MOST_SPEED);
            case 3:
                return trial.tryTalk(number, value);
            case 4:
                return trial.trySet(number, value);
            case 5:
                return trial.tryLean(number, value - MOST_LEANING);
            case 6:
                return trial.isServing(value, number);
            case 7:
                return trial.isBoatAt(number, value);
            case 8:
                return value < 100 && trial.numberOf(number) <= value;
            case 9:
                return value < 10 && trial.isServingAtLeast(number, value);
            default:
                return false;
        }
    }

    public int simulate(long seed, int m) throws IllegalArgumentException {
        if (m < 1 || m > MOST_TURNS) {
            throw new IllegalArgumentException("m is 1 to 60");
        }
        trial.copyFrom(coast);
        long x = seed;
        for (int i = 0; i < m; i++) {
            x = x * 6364136223846793005L + 1442695040888963407L;
            takeTurn((int) (x >>> 33));
        }
        return 10000 * gained(HANDED) + 100 * shown(gained(BACK)) + shown(gained(LOST));
    }

    private void takeTurn(int r) {
        int q = r / 16;
        switch (r % 16) {
            case 0:
            case 1:
                trial.tryLight(q % 200, 10 + q / 256 % 90, q % 3, 1 + q / 8 % 20, 1 + q % 6, q / 32 % 2);
                break;
            case 2:
            case 3:
                trial.tryBoat(q % 200, q / 256 % 13 - 6);
                break;
            case 4:
                trial.trySteer(q % 8, q / 8 % 13 - 6);
                break;
            case 5:
            case 6:
                trial.tryTalk(q % 8, 1 + q / 8 % 60);
                break;
            case 7:
                if (q / 512 % 2 == 0) {
                    trial.tryLean(q % 6, q / 8 % 61 - 30);
                } else {
                    trial.tryDim(q % 6, 10 + q / 8 % 90);
                }
                break;
            default:
                trial.pass(1 + q % 12);
                break;
        }
    }

    private static int shown(int number) {
        return number > MOST_SHOWN ? MOST_SHOWN : number;
    }

    // ---- save slots

    public int save(int slot) throws IndexOutOfBoundsException {
        if (!Memory.isSlot(slot)) {
            throw new IndexOutOfBoundsException("a save slot is 0 or 1");
        }
        memory.keep(slot, coast);
        return coast.time;
    }

    public int restore(int slot) throws IndexOutOfBoundsException, IllegalStateException {
        if (!Memory.isSlot(slot)) {
            throw new IndexOutOfBoundsException("a save slot is 0 or 1");
        }
        if (!memory.isKept(slot)) {
            throw new IllegalStateException("nothing has been saved in the slot");
        }
        memory.bring(slot, coast);
        return coast.time;
    }

    // ---- ranges

    private static void throwFault(int fault) {
        if (fault == NOT_THERE) {
            throw new IndexOutOfBoundsException("no such lighthouse, boat or place");
        }
        if (fault == OUT_OF_RANGE) {
            throw new IllegalArgumentException("an argument is out of its range");
        }
        if (fault == WRONG_STATE) {
            throw new IllegalStateException("there are too many, or nothing serves the boat");
        }
    }

    private static boolean isPlace(int p) {
        return p >= 0 && p < PLACES;
    }

    private static boolean isSpeed(int speed) {
        return speed >= -MOST_SPEED && speed <= MOST_SPEED;
    }

    private static boolean isStrength(int strength) {
        return strength >= LEAST_STRENGTH && strength <= MOST_STRENGTH;
    }

    private static boolean isTickCount(int n) {
        return n >= 1 && n <= MOST_TICKS;
    }

    private static boolean isSetting(int what) {
        return what >= 0 && what < SETTINGS;
    }

    private static boolean isSettingValue(int what, int v) {
        return what >= 0 && what < SETTING_LEAST.length && what < SETTING_MOST.length
                && v >= SETTING_LEAST[what] && v <= SETTING_MOST[what];
    }

    private static final class Light {
        private static final int NUMBERS = 9;

        private int place;
        private int strength;
        private int kind;
        private int n;
        private int most;
        private int reserved;
        private int leaning;
        private int served;
        private int handedTo;

        void begin(int p, int withStrength, int ofKind, int withN, int boats, int thereofReserved) {
            place = p;
            strength = withStrength;
            kind = ofKind;
            n = withN;
            most = boats;
            reserved = thereofReserved;
            leaning = 0;
            served = 0;
            handedTo = 0;
        }

        void copyFrom(Light other) {
            place = other.place;
            strength = other.strength;
            kind = other.kind;
            n = other.n;
            most = other.most;
            reserved = other.reserved;
            leaning = other.leaning;
            served = other.served;
            handedTo = other.handedTo;
        }

        int numberOf(int what) {
            switch (what) {
                case 0:
                    return place;
                case 1:
                    return strength;
                case 2:
                    return kind;
                case 3:
                    return n;
                case 4:
                    return most;
                case 5:
                    return reserved;
                case 6:
                    return leaning;
                case 7:
                    return served;
                default:
                    return handedTo;
            }
        }

        int brightnessAt(int p, int time) {
            boolean turnedAway = n % 2 == 1 ? p < place : p > place;
            int span = 10 + (p < place ? place - p : p - place);
            if (span < 1 || (kind == ONE_SIDED && turnedAway)) {
                return 0;
            }
            int full = strength * 100 / span;
            boolean low = n > 0 && time / n % 2 == 1;
            return kind == BLINKING && low ? full / 2 : full;
        }

        int worthAt(int p, int time) {
            return brightnessAt(p, time) + leaning;
        }

        int servedCount() {
            return Integer.bitCount(served);
        }

        boolean takesHandedOn() {
            return servedCount() < most;
        }

        boolean takesOthers() {
            return servedCount() < most - reserved;
        }
    }

    private static final class Boat {
        private static final int NUMBERS = 9;

        private final int bit;
        private int place;
        private int speed;
        private int keeper;
        private int talkLeft;
        private int wish;
        private int wishTicks;
        private int leftLast;
        private int leftTime;
        private int handed;
        private int back;

        Boat(int number) {
            bit = 1 << number;
        }

        void begin(int p, int withSpeed) {
            place = p;
            speed = withSpeed;
            keeper = NONE;
            talkLeft = 0;
            wish = NONE;
            wishTicks = 0;
            leftLast = NONE;
            leftTime = 0;
            handed = 0;
            back = 0;
        }

        void copyFrom(Boat other) {
            place = other.place;
            speed = other.speed;
            keeper = other.keeper;
            talkLeft = other.talkLeft;
            wish = other.wish;
            wishTicks = other.wishTicks;
            leftLast = other.leftLast;
            leftTime = other.leftTime;
            handed = other.handed;
            back = other.back;
        }

        int numberOf(int what) {
            switch (what) {
                case 0:
                    return place;
                case 1:
                    return speed;
                case 2:
                    return keeper;
                case 3:
                    return talkLeft;
                case 4:
                    return wish;
                case 5:
                    return wishTicks;
                case 6:
                    return leftLast;
                case 7:
                    return handed;
                default:
                    return back;
            }
        }

        void move() {
            if (isPlace(place + speed)) {
                place += speed;
            } else {
                speed = -speed;
            }
        }

        void wishFor(int l) {
            if (l == NONE) {
                wishTicks = 0;
            } else {
                wishTicks = l == wish ? wishTicks + 1 : 1;
            }
            wish = l;
        }
    }

    /** The state: all that undo takes back and a save slot keeps. */
    private static final class Coast {
        private final Light[] lights;
        private final Boat[] boats;
        private final int[] settings;
        private int lightCount;
        private int boatCount;
        private int time;
        private int handed;
        private int back;
        private int refused;
        private int lost;
        private int taken;

        Coast() {
            lights = new Light[MOST_LIGHTS];
            for (int l = 0; l < lights.length; l++) {
                lights[l] = new Light();
            }
            boats = new Boat[MOST_BOATS];
            for (int b = 0; b < boats.length; b++) {
                boats[b] = new Boat(b);
            }
            settings = new int[SETTINGS];
            reset();
        }

        private void reset() {
            for (int what = 0; what < settings.length && what < SETTING_FIRST.length; what++) {
                settings[what] = SETTING_FIRST[what];
            }
            lightCount = 0;
            boatCount = 0;
            time = 0;
            handed = 0;
            back = 0;
            refused = 0;
            lost = 0;
            taken = 0;
        }

        /** Lighthouses and boats beyond the counts are left as they are: begin() sets all of them. */
        void copyFrom(Coast other) {
            lightCount = other.lightCount;
            boatCount = other.boatCount;
            for (int l = 0; l < lightCount; l++) {
                Light to = lightAt(l);
                Light from = other.lightAt(l);
                if (to != null && from != null) {
                    to.copyFrom(from);
                }
            }
            for (int b = 0; b < boatCount; b++) {
                Boat to = boatAt(b);
                Boat from = other.boatAt(b);
                if (to != null && from != null) {
                    to.copyFrom(from);
                }
            }
            for (int what = 0; what < settings.length; what++) {
                settings[what] = other.settingOf(what);
            }
            time = other.time;
            handed = other.handed;
            back = other.back;
            refused = other.refused;
            lost = other.lost;
            taken = other.taken;
        }

        // What there is.

        /** Null for a lighthouse that does not exist, NONE among them. */
        Light lightAt(int l) {
            return l >= 0 && l < lightCount && l < lights.length ? lights[l] : null;
        }

        Boat boatAt(int b) {
            return b >= 0 && b < boatCount && b < boats.length ? boats[b] : null;
        }

        int settingOf(int what) {
            return what >= 0 && what < settings.length ? settings[what] : 0;
        }

        int numberOf(int what) {
            switch (what) {
                case 0:
                    return lightCount;
                case 1:
                    return boatCount;
                case 2:
                    return time;
                case 3:
                    return servedBoats();
                case 4:
                    return talkingBoats();
                case 5:
                    return handed;
                case 6:
                    return back;
                case 7:
                    return refused;
                case 8:
                    return lost;
                default:
                    return taken;
            }
        }

        private int servedBoats() {
            int count = 0;
            for (int b = 0; b < boatCount; b++) {
                Boat boat = boatAt(b);
                if (boat != null && boat.keeper != NONE) {
                    count++;
                }
            }
            return count;
        }

        private int talkingBoats() {
            int count = 0;
            for (int b = 0; b < boatCount; b++) {
                Boat boat = boatAt(b);
                if (boat != null && boat.talkLeft > 0) {
                    count++;
                }
            }
            return count;
        }

        /** The lighthouse with the greatest worth there. */
        int brightest(int p) {
            int best = NONE;
            int bestWorth = 0;
            for (int l = 0; l < lightCount; l++) {
                Light light = lightAt(l);
                int worth = light == null ? 0 : light.worthAt(p, time);
                if (light != null && (best == NONE || worth > bestWorth)) {
                    best = l;
                    bestWorth = worth;
                }
            }
            return best;
        }

        boolean isDark(int p) {
            for (int l = 0; l < lightCount; l++) {
                Light light = lightAt(l);
                if (light != null && light.brightnessAt(p, time) >= settingOf(TOO_DARK)) {
                    return false;
                }
            }
            return true;
        }

        int freePlaces() {
            int free = 0;
            for (int l = 0; l < lightCount; l++) {
                Light light = lightAt(l);
                if (light != null) {
                    free += light.most - light.servedCount();
                }
            }
            return free;
        }

        boolean isServing(int l, int b) {
            Boat boat = boatAt(b);
            return boat != null && lightAt(l) != null && boat.keeper == l;
        }

        boolean isServingAtLeast(int l, int n) {
            Light light = lightAt(l);
            return light != null && light.servedCount() >= n;
        }

        boolean isBoatAt(int b, int p) {
            Boat boat = boatAt(b);
            return boat != null && boat.place == p;
        }

        // What stands against an action.

        int lightFault(int p, int strength, int kind, int n, int most, int reserved) {
            if (!isPlace(p)) {
                return NOT_THERE;
            }
            if (!isStrength(strength) || kind < STEADY || kind > ONE_SIDED || n < 1 || n > MOST_N) {
                return OUT_OF_RANGE;
            }
            if (most < 1 || most > MOST_AT_A_LIGHT || reserved < 0 || reserved > most) {
                return OUT_OF_RANGE;
            }
            return lightCount < MOST_LIGHTS ? FINE : WRONG_STATE;
        }

        int boatFault(int p, int speed) {
            if (!isPlace(p)) {
                return NOT_THERE;
            }
            if (!isSpeed(speed)) {
                return OUT_OF_RANGE;
            }
            return boatCount < MOST_BOATS ? FINE : WRONG_STATE;
        }

        int steerFault(int b, int speed) {
            if (boatAt(b) == null) {
                return NOT_THERE;
            }
            return isSpeed(speed) ? FINE : OUT_OF_RANGE;
        }

        int talkFault(int b, int n) {
            Boat boat = boatAt(b);
            if (boat == null) {
                return NOT_THERE;
            }
            if (n < 1 || n > MOST_TALK) {
                return OUT_OF_RANGE;
            }
            return boat.keeper == NONE ? WRONG_STATE : FINE;
        }

        int leanFault(int l, int v) {
            if (lightAt(l) == null) {
                return NOT_THERE;
            }
            return v >= -MOST_LEANING && v <= MOST_LEANING ? FINE : OUT_OF_RANGE;
        }

        int dimFault(int l, int v) {
            if (lightAt(l) == null) {
                return NOT_THERE;
            }
            return isStrength(v) ? FINE : OUT_OF_RANGE;
        }

        // The actions themselves.

        int addLight(int p, int strength, int kind, int n, int most, int reserved) {
            lightCount++;
            Light light = lightAt(lightCount - 1);
            if (light != null) {
                light.begin(p, strength, kind, n, most, reserved);
            }
            return lightCount - 1;
        }

        int addBoat(int p, int speed) {
            boatCount++;
            Boat boat = boatAt(boatCount - 1);
            if (boat != null) {
                boat.begin(p, speed);
            }
            return boatCount - 1;
        }

        int putSpeed(int b, int speed) {
            Boat boat = boatAt(b);
            if (boat == null) {
                return 0;
            }
            int before = boat.speed;
            boat.speed = speed;
            return before;
        }

        int putTalk(int b, int n) {
            Boat boat = boatAt(b);
            if (boat == null) {
                return 0;
            }
            int before = boat.talkLeft;
            boat.talkLeft = n;
            return before;
        }

        int putLeaning(int l, int v) {
            Light light = lightAt(l);
            if (light == null) {
                return 0;
            }
            int before = light.leaning;
            light.leaning = v;
            return before;
        }

        int putStrength(int l, int v) {
            Light light = lightAt(l);
            if (light == null) {
                return 0;
            }
            int before = light.strength;
            light.strength = v;
            return before;
        }

        int putSetting(int what, int v) {
            int before = settingOf(what);
            if (what >= 0 && what < settings.length) {
                settings[what] = v;
            }
            return before;
        }

        // The actions of texts, scripts and simulations: false if one is left out.

        boolean tryLight(int p, int strength, int kind, int n, int most, int reserved) {
            boolean fine = lightFault(p, strength, kind, n, most, reserved) == FINE;
            if (fine) {
                addLight(p, strength, kind, n, most, reserved);
            }
            return fine;
        }

        boolean tryBoat(int p, int speed) {
            boolean fine = boatFault(p, speed) == FINE;
            if (fine) {
                addBoat(p, speed);
            }
            return fine;
        }

        boolean trySteer(int b, int speed) {
            boolean fine = steerFault(b, speed) == FINE;
            if (fine) {
                putSpeed(b, speed);
            }
            return fine;
        }

        boolean tryTalk(int b, int n) {
            boolean fine = talkFault(b, n) == FINE;
            if (fine) {
                putTalk(b, n);
            }
            return fine;
        }

        boolean tryLean(int l, int v) {
            boolean fine = leanFault(l, v) == FINE;
            if (fine) {
                putLeaning(l, v);
            }
            return fine;
        }

        boolean tryDim(int l, int v) {
            boolean fine = dimFault(l, v) == FINE;
            if (fine) {
                putStrength(l, v);
            }
            return fine;
        }

        boolean trySet(int what, int v) {
            boolean fine = isSettingValue(what, v);
            if (fine) {
                putSetting(what, v);
            }
            return fine;
        }

        // A tick.

        void pass(int n) {
            for (int i = 0; i < n; i++) {
                time++;
                for (int b = 0; b < boatCount; b++) {
                    Boat boat = boatAt(b);
                    if (boat != null) {
                        sail(boat);
                    }
                }
            }
        }

        private void sail(Boat boat) {
            boat.move();
            Light keeper = lightAt(boat.keeper);
            if (keeper != null && keeper.brightnessAt(boat.place, time) < settingOf(TOO_DARK)) {
                lose(boat);
                keeper = null;
            }
            if (keeper == null) {
                seekKeeper(boat);
            } else {
                boat.wishFor(bestWish(boat, keeper));
                if (boat.wishTicks >= settingOf(LEAST_TIME)) {
                    ask(boat);
                }
            }
            if (boat.talkLeft > 0) {
                boat.talkLeft--;
            }
        }

        private void lose(Boat boat) {
            serve(boat, NONE);
            boat.wishFor(NONE);
            if (boat.talkLeft > 0) {
                boat.talkLeft = 0;
                lost++;
            }
        }

        private int bestWish(Boat boat, Light keeper) {
            int wish = NONE;
            int least = keeper.worthAt(boat.place, time) + settingOf(MARGIN);
            for (int l = 0; l < lightCount; l++) {
                Light light = lightAt(l);
                int worth = light == null ? 0 : light.worthAt(boat.place, time);
                if (light != null && l != boat.keeper && worth >= least) {
                    wish = l;
                    // Only a greater worth takes the place of this one, so that of several the lowest stays.
                    least = worth + 1;
                }
            }
            return wish;
        }

        private void ask(Boat boat) {
            Light wish = lightAt(boat.wish);
            if (wish == null) {
                return;
            }
            if (!wish.takesHandedOn()) {
                refused++;
                return;
            }
            if (boat.wish == boat.leftLast && time - boat.leftTime <= settingOf(SOON_BACK)) {
                back++;
                boat.back++;
            }
            handed++;
            boat.handed++;
            wish.handedTo++;
            boat.leftLast = boat.keeper;
            boat.leftTime = time;
            serve(boat, boat.wish);
            boat.wishFor(NONE);
        }

        private void seekKeeper(Boat boat) {
            int best = NONE;
            int bestWorth = 0;
            for (int l = 0; l < lightCount; l++) {
                Light light = lightAt(l);
                if (light != null && light.takesOthers()
                        && light.brightnessAt(boat.place, time) >= settingOf(TOO_DARK)) {
                    int worth = light.worthAt(boat.place, time);
                    if (best == NONE || worth > bestWorth) {
                        best = l;
                        bestWorth = worth;
                    }
                }
            }
            if (best != NONE) {
                serve(boat, best);
                taken++;
            }
        }

        /** The one place where a boat changes its lighthouse, so that both sides tell the same. */
        private void serve(Boat boat, int l) {
            Light before = lightAt(boat.keeper);
            if (before != null) {
                before.served &= ~boat.bit;
            }
            Light next = lightAt(l);
            if (next != null) {
                next.served |= boat.bit;
            }
            boat.keeper = l;
        }
    }

    private static final class Text {
        private static final int MOST_SIGNS = 120;
        private static final int MOST_NUMBERS = 6;

        // For each number of a command: its digits, its least and its greatest value.
        private static final int[] LIGHT_FORM = {3, 0, 199, 2, 10, 99, 1, 0, 2, 2, 1, 20, 1, 1, 6, 1, 0, 6};
        private static final int[] BOAT_FORM = {3, 0, 199, 2, 0, 12};
        private static final int[] TALK_FORM = {1, 0, 7, 2, 1, 99};
        private static final int[] STEER_FORM = {1, 0, 7, 2, 0, 12};
        private static final int[] MARGIN_FORM = {3, 0, 100};
        private static final int[] TICKS_FORM = {2, 1, 60};

        private final char[] signs;
        private final int[] numbers;
        private int length;
        private int at;
        private int letter;

        Text() {
            signs = new char[MOST_SIGNS];
            numbers = new int[MOST_NUMBERS];
        }

        boolean isFull() {
            return length >= signs.length;
        }

        int add(int c) {
            if (length >= 0 && length < signs.length) {
                signs[length] = (char) c;
                length++;
            }
            return length;
        }

        int empty() {
            int before = length;
            length = 0;
            return before;
        }

        int errorPlace() {
            boolean going = readHead();
            for (int i = 0; i < MOST_SIGNS && going && hasMore(); i++) {
                going = readCommand();
            }
            return going ? NONE : at;
        }

        // Reading stops at the first sign that is not allowed, or behind the last one.

        boolean readHead() {
            at = 0;
            if (signAt(0) != 'C') {
                return false;
            }
            at = 1;
            return true;
        }

        boolean hasMore() {
            return at < length;
        }

        boolean readCommand() {
            letter = signAt(at);
            int[] form = formOf(letter);
            if (form == null) {
                return false;
            }
            at++;
            for (int i = 0; i < numbers.length && i * 3 + 2 < form.length; i++) {
                int number = readNumber(form[i * 3], form[i * 3 + 1], form[i * 3 + 2]);
                if (number == NONE) {
                    return false;
                }
                numbers[i] = number;
            }
            return true;
        }

        int number(int i) {
            return i >= 0 && i < numbers.length ? numbers[i] : 0;
        }

        private int signAt(int i) {
            return i >= 0 && i < length && i < signs.length ? signs[i] : NONE;
        }

        private static int[] formOf(int letter) {
            switch (letter) {
                case 'l':
                    return LIGHT_FORM;
                case 'b':
                    return BOAT_FORM;
                case 'k':
                    return TALK_FORM;
                case 'v':
                    return STEER_FORM;
                case 'm':
                    return MARGIN_FORM;
                case 't':
                    return TICKS_FORM;
                default:
                    return null;
            }
        }

        /** A digit is allowed if some number from least to most begins with the digits so far. */
        private int readNumber(int digits, int least, int most) {
            int numbersLeft = 1;
            for (int i = 0; i < digits; i++) {
                numbersLeft *= 10;
            }
            int number = 0;
            for (int i = 0; i < digits; i++) {
                int digit = signAt(at) - '0';
                if (digit < 0 || digit > 9) {
                    return NONE;
                }
                numbersLeft /= 10;
                number += digit * numbersLeft;
                if (number > most || number + numbersLeft - 1 < least) {
                    return NONE;
                }
                at++;
            }
            return number;
        }
    }

    /** The states that undo goes back to, in a ring, and the save slots. */
    private static final class Memory {
        private static final int MOST_STATES = 14;
        private static final int SLOTS = 2;

        private final Coast[] states;
        private final Coast[] slots;
        private int first;
        private int count;
        private int keptSlots;

        Memory() {
            states = new Coast[MOST_STATES];
            for (int i = 0; i < states.length; i++) {
                states[i] = new Coast();
            }
            slots = new Coast[SLOTS];
            for (int i = 0; i < slots.length; i++) {
                slots[i] = new Coast();
            }
        }

        void reset() {
            count = 0;
            keptSlots = 0;
        }

        boolean hasStates() {
            return count > 0;
        }

        void remember(Coast coast) {
            if (count == MOST_STATES) {
                first = (first + 1) % MOST_STATES;
                count--;
            }
            Coast state = stateAt(count);
            if (state != null) {
                state.copyFrom(coast);
                count++;
            }
        }

        int takeBack(Coast coast) {
            Coast state = stateAt(count - 1);
            if (state != null) {
                coast.copyFrom(state);
                count--;
            }
            return count;
        }

        private Coast stateAt(int i) {
            int at = (first + i) % MOST_STATES;
            return i >= 0 && at >= 0 && at < states.length ? states[at] : null;
        }

        static boolean isSlot(int slot) {
            return slot >= 0 && slot < SLOTS;
        }

        boolean isKept(int slot) {
            return isSlot(slot) && (keptSlots >> slot & 1) == 1;
        }

        void keep(int slot, Coast coast) {
            Coast kept = slotAt(slot);
            if (kept != null) {
                kept.copyFrom(coast);
                keptSlots |= 1 << slot;
            }
        }

        void bring(int slot, Coast coast) {
            Coast kept = slotAt(slot);
            if (kept != null) {
                coast.copyFrom(kept);
                count = 0;
            }
        }

        private Coast slotAt(int slot) {
            return slot >= 0 && slot < slots.length ? slots[slot] : null;
        }
    }
}
