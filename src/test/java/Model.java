import java.util.ArrayList;
import java.util.List;

/** The document once more, by other means than the class, to compare the class with. */
public final class Model {
    private static final int NONE = -1;
    private static final int[][] SETTING_RANGES = {{0, 100}, {1, 10}, {1, 300}, {0, 50}};

    private static final class Lamp {
        int place, strength, kind, n, boats, reserved, leaning, handedTo;

        Lamp copy() {
            Lamp c = new Lamp();
            c.place = place;
            c.strength = strength;
            c.kind = kind;
            c.n = n;
            c.boats = boats;
            c.reserved = reserved;
            c.leaning = leaning;
            c.handedTo = handedTo;
            return c;
        }
    }

    private static final class Vessel {
        int place, speed, talk, wishFor, handed, backs, leftAt;
        Integer server, wish, left;

        Vessel copy() {
            Vessel c = new Vessel();
            c.place = place;
            c.speed = speed;
            c.talk = talk;
            c.wishFor = wishFor;
            c.handed = handed;
            c.backs = backs;
            c.leftAt = leftAt;
            c.server = server;
            c.wish = wish;
            c.left = left;
            return c;
        }
    }

    private static final class State {
        List<Lamp> lamps = new ArrayList<>();
        List<Vessel> vessels = new ArrayList<>();
        int[] settings = {10, 3, 60, 12};
        int time, handed, backs, refused, lost, begun;

        State copy() {
            State c = new State();
            for (Lamp l : lamps) {
                c.lamps.add(l.copy());
            }
            for (Vessel v : vessels) {
                c.vessels.add(v.copy());
            }
            c.settings = settings.clone();
            c.time = time;
            c.handed = handed;
            c.backs = backs;
            c.refused = refused;
            c.lost = lost;
            c.begun = begun;
            return c;
        }

        int bright(int l, int p) {
            Lamp lamp = lamps.get(l);
            double exact = lamp.strength * 100.0 / (10 + Math.abs(p - lamp.place));
            if (lamp.kind == 1 && Math.floorDiv(time, lamp.n) % 2 != 0) {
                exact /= 2;
            }
            if (lamp.kind == 2 && (lamp.n % 2 != 0 && p < lamp.place || lamp.n % 2 == 0 && p > lamp.place)) {
                exact = 0;
            }
            return (int) Math.floor(exact + 1e-9);
        }

        int worth(int l, int p) {
            return bright(l, p) + lamps.get(l).leaning;
        }

        int servedBy(int l) {
            int set = 0;
            for (int b = 0; b < vessels.size(); b++) {
                if (vessels.get(b).server != null && vessels.get(b).server == l) {
                    set += 1 << b;
                }
            }
            return set;
        }

        int load(int l) {
            return Integer.bitCount(servedBy(l));
        }

        Integer greatest(List<Integer> among, int p) {
            Integer best = null;
            for (Integer l : among) {
                if (best == null || worth(l, p) > worth(best, p)) {
                    best = l;
                }
            }
            return best;
        }

        void tick() {
            time++;
            for (Vessel v : vessels) {
                int to = v.place + v.speed;
                if (to < 0 || to > 199) {
                    v.speed = -v.speed;
                } else {
                    v.place = to;
                }
                if (v.server != null) {
                    stayOrGo(v);
                }
                if (v.server == null) {
                    begin(v);
                }
                v.talk = Math.max(0, v.talk - 1);
            }
        }

        private void stayOrGo(Vessel v) {
            if (bright(v.server, v.place) < settings[2]) {
                v.server = null;
                v.wish = null;
                v.wishFor = 0;
                if (v.talk > 0) {
                    v.talk = 0;
                    lost++;
                }
                return;
            }
            List<Integer> better = new ArrayList<>();
            for (int l = 0; l < lamps.size(); l++) {
                if (l != v.server && worth(l, v.place) >= worth(v.server, v.place) + settings[0]) {
                    better.add(l);
                }
            }
            Integer wish = greatest(better, v.place);
            if (wish == null) {
                v.wishFor = 0;
            } else if (wish.equals(v.wish)) {
                v.wishFor++;
            } else {
                v.wishFor = 1;
            }
            v.wish = wish;
            if (wish == null || v.wishFor < settings[1]) {
                return;
            }
            if (load(wish) == lamps.get(wish).boats) {
                refused++;
                return;
            }
            handed++;
            v.handed++;
            lamps.get(wish).handedTo++;
            if (wish.equals(v.left) && v.leftAt >= time - settings[3]) {
                backs++;
                v.backs++;
            }
            v.left = v.server;
            v.leftAt = time;
            v.server = wish;
            v.wish = null;
            v.wishFor = 0;
        }

        private void begin(Vessel v) {
            List<Integer> open = new ArrayList<>();
            for (int l = 0; l < lamps.size(); l++) {
                Lamp lamp = lamps.get(l);
                if (bright(l, v.place) >= settings[2] && load(l) < lamp.boats - lamp.reserved) {
                    open.add(l);
                }
            }
            v.server = greatest(open, v.place);
            if (v.server != null) {
                begun++;
            }
        }
    }

    private State now = new State();
    private String text = "";
    private final List<State> past = new ArrayList<>();
    private final State[] slots = new State[2];

    private static int number(Integer of) {
        return of == null ? NONE : of;
    }

    private static void argument(boolean fine) {
        if (!fine) {
            throw new IllegalArgumentException();
        }
    }

    private static void index(boolean fine) {
        if (!fine) {
            throw new IndexOutOfBoundsException();
        }
    }

    private static void state(boolean fine) {
        if (!fine) {
            throw new IllegalStateException();
        }
    }

    private static boolean in(int v, int least, int most) {
        return v >= least && v <= most;
    }

    private boolean hasLight(int l) {
        return in(l, 0, now.lamps.size() - 1);
    }

    private boolean hasBoat(int b) {
        return in(b, 0, now.vessels.size() - 1);
    }

    private void remember() {
        past.add(now.copy());
        if (past.size() > 14) {
            past.remove(0);
        }
    }

    // ---- text

    public int append(int c) {
        argument(in(c, 0, 255));
        state(text.length() < 120);
        text += (char) c;
        return text.length();
    }

    public int clearText() {
        int before = text.length();
        text = "";
        return before;
    }

    /** For each command the ranges of its numbers, with the digits they are written with. */
    private static int[][] form(char letter) {
        int[] place = {3, 0, 199};
        int[] boat = {1, 0, 7};
        int[] speed = {2, 0, 12};
        switch (letter) {
            case 'l':
                return new int[][] {place, {2, 10, 99}, {1, 0, 2}, {2, 1, 20}, {1, 1, 6}, {1, 0, 6}};
            case 'b':
                return new int[][] {place, speed};
            case 'k':
                return new int[][] {boat, {2, 1, 99}};
            case 'v':
                return new int[][] {boat, speed};
            case 'm':
                return new int[][] {{3, 0, 100}};
            case 't':
                return new int[][] {{2, 1, 60}};
            default:
                return null;
        }
    }

    private static boolean begins(String digits, int[] range) {
        for (int v = range[1]; v <= range[2]; v++) {
            if (String.format("%0" + range[0] + "d", v).startsWith(digits)) {
                return true;
            }
        }
        return false;
    }

    /** The commands, each as its letter and its numbers, or null; the error position is left in wrongAt. */
    private List<int[]> commands() {
        List<int[]> all = new ArrayList<>();
        wrongAt = 0;
        if (text.isEmpty() || text.charAt(0) != 'C') {
            return null;
        }
        wrongAt = 1;
        while (wrongAt < text.length()) {
            char letter = text.charAt(wrongAt);
            int[][] form = form(letter);
            if (form == null) {
                return null;
            }
            wrongAt++;
            int[] command = new int[form.length + 1];
            command[0] = letter;
            for (int i = 0; i < form.length; i++) {
                String digits = "";
                while (digits.length() < form[i][0]) {
                    if (wrongAt == text.length() || !begins(digits + text.charAt(wrongAt), form[i])) {
                        return null;
                    }
                    digits += text.charAt(wrongAt++);
                }
                command[i + 1] = Integer.parseInt(digits);
            }
            all.add(command);
        }
        wrongAt = NONE;
        return all;
    }

    private int wrongAt;

    public int errorPosition() {
        commands();
        return wrongAt;
    }

    public int load() {
        List<int[]> commands = commands();
        state(commands != null);
        now = new State();
        int leftOut = 0;
        for (int[] c : commands) {
            try {
                obey(c);
            } catch (IndexOutOfBoundsException | IllegalArgumentException | IllegalStateException e) {
                leftOut++;
            }
        }
        past.clear();
        slots[0] = null;
        slots[1] = null;
        return leftOut;
    }

    private void obey(int[] c) {
        switch (c[0]) {
            case 'l':
                light(c[1], c[2], c[3], c[4], c[5], c[6]);
                break;
            case 'b':
                boat(c[1], c[2] - 6);
                break;
            case 'k':
                talk(c[1], c[2]);
                break;
            case 'v':
                steer(c[1], c[2] - 6);
                break;
            case 'm':
                set(0, c[1]);
                break;
            default:
                ticks(c[1]);
                break;
        }
    }

    // ---- what there is

    public int about(int what) {
        argument(in(what, 0, 9));
        int served = 0;
        int talking = 0;
        for (Vessel v : now.vessels) {
            served += v.server != null ? 1 : 0;
            talking += v.talk > 0 ? 1 : 0;
        }
        return new int[] {now.lamps.size(), now.vessels.size(), now.time, served, talking,
            now.handed, now.backs, now.refused, now.lost, now.begun}[what];
    }

    public int lightOf(int l, int what) {
        index(hasLight(l));
        argument(in(what, 0, 8));
        Lamp lamp = now.lamps.get(l);
        return new int[] {lamp.place, lamp.strength, lamp.kind, lamp.n, lamp.boats, lamp.reserved, lamp.leaning,
            now.servedBy(l), lamp.handedTo}[what];
    }

    public int boatOf(int b, int what) {
        index(hasBoat(b));
        argument(in(what, 0, 8));
        Vessel v = now.vessels.get(b);
        return new int[] {v.place, v.speed, number(v.server), v.talk, number(v.wish), v.wishFor, number(v.left),
            v.handed, v.backs}[what];
    }

    public int brightness(int l, int p) {
        index(hasLight(l) && in(p, 0, 199));
        return now.bright(l, p);
    }

    private Integer bestLight(int p) {
        List<Integer> all = new ArrayList<>();
        for (int l = 0; l < now.lamps.size(); l++) {
            all.add(l);
        }
        return now.greatest(all, p);
    }

    public int bestAt(int p, int what) {
        index(in(p, 0, 199));
        argument(in(what, 0, 1));
        Integer best = bestLight(p);
        if (what == 0) {
            return number(best);
        }
        return best == null ? 0 : now.worth(best, p);
    }

    public int setting(int what) {
        argument(in(what, 0, 3));
        return now.settings[what];
    }

    // ---- actions

    public int light(int p, int strength, int kind, int n, int boats, int reserved) {
        index(in(p, 0, 199));
        argument(in(strength, 10, 99) && in(kind, 0, 2) && in(n, 1, 20) && in(boats, 1, 6) && in(reserved, 0, boats));
        state(now.lamps.size() < 6);
        remember();
        Lamp lamp = new Lamp();
        lamp.place = p;
        lamp.strength = strength;
        lamp.kind = kind;
        lamp.n = n;
        lamp.boats = boats;
        lamp.reserved = reserved;
        now.lamps.add(lamp);
        return now.lamps.size() - 1;
    }

    public int boat(int p, int speed) {
        index(in(p, 0, 199));
        argument(in(speed, -6, 6));
        state(now.vessels.size() < 8);
        remember();
        Vessel v = new Vessel();
        v.place = p;
        v.speed = speed;
        now.vessels.add(v);
        return now.vessels.size() - 1;
    }

    public int steer(int b, int speed) {
        index(hasBoat(b));
        argument(in(speed, -6, 6));
        remember();
        int before = now.vessels.get(b).speed;
        now.vessels.get(b).speed = speed;
        return before;
    }

    public int talk(int b, int n) {
        index(hasBoat(b));
        argument(in(n, 1, 99));
        state(now.vessels.get(b).server != null);
        remember();
        int before = now.vessels.get(b).talk;
        now.vessels.get(b).talk = n;
        return before;
    }

    public int lean(int l, int v) {
        index(hasLight(l));
        argument(in(v, -30, 30));
        remember();
        int before = now.lamps.get(l).leaning;
        now.lamps.get(l).leaning = v;
        return before;
    }

    public int dim(int l, int v) {
        index(hasLight(l));
        argument(in(v, 10, 99));
        remember();
        int before = now.lamps.get(l).strength;
        now.lamps.get(l).strength = v;
        return before;
    }

    public int set(int what, int v) {
        argument(in(what, 0, 3) && in(v, SETTING_RANGES[what][0], SETTING_RANGES[what][1]));
        remember();
        int before = now.settings[what];
        now.settings[what] = v;
        return before;
    }

    public int ticks(int n) {
        argument(in(n, 1, 60));
        remember();
        int before = now.handed;
        for (int i = 0; i < n; i++) {
            now.tick();
        }
        return now.handed - before;
    }

    public int undo() {
        state(!past.isEmpty());
        now = past.remove(past.size() - 1);
        return past.size();
    }

    // ---- what would be

    public int handedIn(int b, int what) {
        index(hasBoat(b));
        argument(in(what, 0, 2));
        State then = now.copy();
        Vessel v = then.vessels.get(b);
        for (int i = 1; i <= 200; i++) {
            int before = v.handed;
            then.tick();
            if (v.handed > before) {
                return new int[] {i, number(v.server), v.place}[what];
            }
        }
        return NONE;
    }

    public int ifMargin(int v, int n, int what) {
        argument(in(v, 0, 100) && in(n, 1, 200) && in(what, 0, 3));
        return gains(v, n)[what];
    }

    private int[] gains(int margin, int n) {
        State then = now.copy();
        then.settings[0] = margin;
        for (int i = 0; i < n; i++) {
            then.tick();
        }
        return new int[] {then.handed - now.handed, then.backs - now.backs, then.refused - now.refused,
            then.lost - now.lost};
    }

    public int bestMargin(int n) {
        argument(in(n, 1, 100));
        int best = 0;
        long bestCost = Long.MAX_VALUE;
        for (int i = 0; i <= 12; i++) {
            int[] gains = gains(5 * i, n);
            long cost = (gains[1] + gains[3]) * 1000000L + gains[0] * 100L + i;
            if (cost < bestCost) {
                bestCost = cost;
                best = 5 * i;
            }
        }
        return best;
    }

    public int dark() {
        int count = 0;
        for (int p = 0; p < 200; p++) {
            int brightest = 0;
            for (int l = 0; l < now.lamps.size(); l++) {
                brightest = Math.max(brightest, now.bright(l, p));
            }
            count += brightest < now.settings[2] ? 1 : 0;
        }
        return count;
    }

    public int border(int k) {
        argument(k >= 0);
        List<Integer> all = new ArrayList<>();
        for (int p = 1; p < 200; p++) {
            if (bestAt(p, 0) != bestAt(p - 1, 0)) {
                all.add(p);
            }
        }
        return k < all.size() ? all.get(k) : NONE;
    }

    public int room() {
        int free = 0;
        for (int l = 0; l < now.lamps.size(); l++) {
            free += now.lamps.get(l).boats - now.load(l);
        }
        return free;
    }

    // ---- scripts, simulations

    public int runScript(int n, long script) {
        argument(in(n, 1, 3));
        argument(script >= 0 && Long.toString(script).length() <= 6 * n);
        String digits = String.format("%0" + 6 * n + "d", script);
        Model copy = new Model();
        copy.now = now.copy();
        for (int i = 0; i < n; i++) {
            if (!copy.succeeds(digits.substring(6 * i, 6 * i + 6))) {
                return i;
            }
        }
        return NONE;
    }

    private boolean succeeds(String s) {
        int d2 = s.charAt(1) - '0';
        int last1 = Integer.parseInt(s.substring(5));
        int last2 = Integer.parseInt(s.substring(4));
        int last3 = Integer.parseInt(s.substring(3));
        try {
            if (s.matches("1000\\d\\d")) {
                ticks(last2);
            } else if (s.matches("2\\d00\\d\\d")) {
                steer(d2, last2 - 6);
            } else if (s.matches("3\\d00\\d\\d")) {
                talk(d2, last2);
            } else if (s.matches("4\\d0\\d\\d\\d")) {
                set(d2, last3);
            } else if (s.matches("5\\d00\\d\\d")) {
                lean(d2, last2 - 30);
            } else if (s.matches("6\\d000\\d")) {
                return hasLight(last1) && boatOf(d2, 2) == last1;
            } else if (s.matches("7\\d0\\d\\d\\d")) {
                return boatOf(d2, 0) == last3;
            } else if (s.matches("8\\d00\\d\\d")) {
                return about(d2) <= last2;
            } else if (s.matches("9\\d000\\d")) {
                return Integer.bitCount(lightOf(d2, 7)) >= last1;
            } else {
                return false;
            }
            return true;
        } catch (IndexOutOfBoundsException | IllegalArgumentException | IllegalStateException e) {
            return false;
        }
    }

    public int simulate(long seed, int m) {
        argument(in(m, 1, 60));
        Model copy = new Model();
        copy.now = now.copy();
        long x = seed;
        for (int i = 0; i < m; i++) {
            x = x * 6364136223846793005L + 1442695040888963407L;
            try {
                copy.turn((int) (x >>> 33));
            } catch (IndexOutOfBoundsException | IllegalArgumentException | IllegalStateException e) {
                continue;
            }
        }
        return 10000 * (copy.now.handed - now.handed) + 100 * Math.min(99, copy.now.backs - now.backs)
                + Math.min(99, copy.now.lost - now.lost);
    }

    private void turn(int r) {
        int q = r / 16;
        int kind = r % 16;
        if (kind <= 1) {
            light(q % 200, 10 + (q / 256) % 90, q % 3, 1 + (q / 8) % 20, 1 + q % 6, (q / 32) % 2);
        } else if (kind <= 3) {
            boat(q % 200, (q / 256) % 13 - 6);
        } else if (kind == 4) {
            steer(q % 8, (q / 8) % 13 - 6);
        } else if (kind <= 6) {
            talk(q % 8, 1 + (q / 8) % 60);
        } else if (kind == 7 && (q / 512) % 2 == 0) {
            lean(q % 6, (q / 8) % 61 - 30);
        } else if (kind == 7) {
            dim(q % 6, 10 + (q / 8) % 90);
        } else {
            ticks(1 + q % 12);
        }
    }

    // ---- save slots

    public int save(int slot) {
        index(in(slot, 0, 1));
        slots[slot] = now.copy();
        return now.time;
    }

    public int restore(int slot) {
        index(in(slot, 0, 1));
        state(slots[slot] != null);
        now = slots[slot].copy();
        past.clear();
        return now.time;
    }
}
