/** Promises 21 to 26: what would be. */
public final class ForecastTest {
    private static final Check CHECK = new Check("ForecastTest");
    private static final int[] WILD = {Integer.MIN_VALUE, Integer.MAX_VALUE};

    public static void main(String[] args) {
        handedIn();
        handedInLate();
        handedInRefuses();
        ifMargin();
        ifMarginRefuses();
        bestMargin();
        bestMarginByTrying();
        dark();
        border();
        room();
        changesNothing();
        CHECK.end();
    }

    private static void handed(LanternBoats x, int b, int ticks, int l, int p) {
        CHECK.due("handedIn(" + b + ", 0)", ticks, x.handedIn(b, 0));
        CHECK.due("handedIn(" + b + ", 1)", l, x.handedIn(b, 1));
        CHECK.due("handedIn(" + b + ", 2)", p, x.handedIn(b, 2));
    }

    private static void handedIn() {
        LanternBoats x = Coasts.twoLights(1, 0);
        x.boat(30, 0);
        handed(x, 0, 9, 1, 58);
        handed(x, 1, -1, -1, -1);
        x.ticks(8);
        handed(x, 0, 1, 1, 58);
        x.ticks(1);
        x.steer(0, -6);
        handed(x, 0, 4, 0, 34);
        x.steer(0, 0);
        handed(x, 0, -1, -1, -1);
        LanternBoats full = Coasts.twoLights(1, 0);
        full.boat(100, 0);
        handed(full, 0, -1, -1, -1);
        LanternBoats keptFree = Coasts.twoLights(1, 1);
        keptFree.boat(100, 0);
        handed(keptFree, 0, 9, 1, 58);
    }

    /** The lighthouse of n 20 is half as bright from the time 20 on: 250 and 400. */
    private static void handedInLate() {
        LanternBoats x = new LanternBoats();
        x.light(100, 50, 1, 20, 6, 0);
        x.light(100, 40, 0, 1, 6, 0);
        x.boat(100, 0);
        handed(x, 0, 22, 1, 100);
        x.set(1, 10);
        handed(x, 0, 29, 1, 100);
        // A boat of speed 1 from 0 on: at 199 behind 199 ticks, there for 2.
        LanternBoats y = new LanternBoats();
        y.light(0, 99, 0, 1, 6, 0);
        y.light(199, 10, 2, 1, 6, 0);
        y.set(2, 1);
        y.set(1, 1);
        y.boat(0, 1);
        handed(y, 0, 199, 1, 199);
        y.set(1, 2);
        handed(y, 0, 200, 1, 199);
        y.set(1, 3);
        handed(y, 0, -1, -1, -1);
    }

    private static void handedInRefuses() {
        LanternBoats x = Coasts.twoLights(6, 0);
        for (int b : new int[] {-1, 1, 8, WILD[0], WILD[1]}) {
            CHECK.noSuchIndex("handedIn(" + b + ", 0)", () -> x.handedIn(b, 0));
            CHECK.noSuchIndex("handedIn(" + b + ", 3)", () -> x.handedIn(b, 3));
        }
        for (int what : new int[] {-1, 3, WILD[0], WILD[1]}) {
            CHECK.outOfRange("handedIn(0, " + what + ")", () -> x.handedIn(0, what));
        }
    }

    private static void ifMargin() {
        LanternBoats x = Coasts.twoLights(1, 0);
        CHECK.due("handed on in 8", 0, x.ifMargin(10, 8, 0));
        CHECK.due("handed on in 9", 1, x.ifMargin(10, 9, 0));
        CHECK.due("with the margin 0 at 50, 52, 54", 1, x.ifMargin(0, 7, 0));
        CHECK.due("not sooner", 0, x.ifMargin(0, 6, 0));
        x.boat(100, 0);
        CHECK.due("refused in 9", 1, x.ifMargin(10, 9, 2));
        CHECK.due("refused in 12", 4, x.ifMargin(10, 12, 2));
        CHECK.due("handed on", 0, x.ifMargin(10, 12, 0));
        x.ticks(12);
        CHECK.due("what was is not counted", 1, x.ifMargin(10, 1, 2));
        x.talk(0, 99);
        CHECK.due("talks lost by the place 74", 0, x.ifMargin(10, 4, 3));
        CHECK.due("talks lost at the place 74", 1, x.ifMargin(10, 5, 3));
        LanternBoats y = Coasts.twoLights(6, 0);
        y.ticks(9);
        y.steer(0, -6);
        CHECK.due("back and forth", 1, y.ifMargin(10, 4, 1));
        CHECK.due("handed on", 1, y.ifMargin(10, 4, 0));
        CHECK.due("back and forth with the margin 30", 0, y.ifMargin(30, 4, 1));
        y.ticks(4);
        CHECK.due("what was is not counted", 0, y.ifMargin(10, 4, 1));
        CHECK.due("the margin stays", 10, y.setting(0));
        CHECK.due("the longest", 0, new LanternBoats().ifMargin(100, 200, 0));
    }

    private static void ifMarginRefuses() {
        LanternBoats x = new LanternBoats();
        int[][] ranges = {{0, 100}, {1, 200}, {0, 3}};
        for (int i = 0; i < ranges.length; i++) {
            for (int bad : new int[] {ranges[i][0] - 1, ranges[i][1] + 1, WILD[0], WILD[1]}) {
                int[] a = {10, 10, 0};
                a[i] = bad;
                CHECK.outOfRange("ifMargin with " + bad + " as argument " + i, () -> x.ifMargin(a[0], a[1], a[2]));
            }
            for (int end : ranges[i]) {
                int[] a = {10, 10, 0};
                a[i] = end;
                CHECK.due("ifMargin with " + end + " as argument " + i, 0, x.ifMargin(a[0], a[1], a[2]));
            }
        }
    }

    private static void bestMargin() {
        CHECK.due("bestMargin without boats", 0, new LanternBoats().bestMargin(100));
        LanternBoats y = Coasts.twoLights(6, 0);
        y.ticks(9);
        y.steer(0, -6);
        // Back to 0, which has 11 more at 46, 29 at 40, 48 at 34, 71 at 28; at 22 it sees too little of 1.
        CHECK.due("3 ticks: all the same", 0, y.bestMargin(3));
        CHECK.due("4 ticks: the lowest with which it does not go back", 15, y.bestMargin(4));
        CHECK.due("5 ticks", 30, y.bestMargin(5));
        CHECK.due("6 ticks", 30, y.bestMargin(6));
        y.talk(0, 99);
        CHECK.due("a talk lost is as bad as to go back: handed on least often", 30, y.bestMargin(6));
        y.set(2, 1);
        CHECK.due("6 ticks without what is too dark", 50, y.bestMargin(6));
        CHECK.due("7 ticks: all the same", 0, y.bestMargin(7));
        CHECK.due("the margin stays", 10, y.setting(0));
        LanternBoats x = new LanternBoats();
        for (int n : new int[] {-1, 0, 101, WILD[0], WILD[1]}) {
            CHECK.outOfRange("bestMargin(" + n + ")", () -> x.bestMargin(n));
        }
    }

    /** bestMargin against what ifMargin answers, on coasts of all sorts. */
    private static void bestMarginByTrying() {
        boolean[] seen = new boolean[61];
        for (int i = 0; i < 300; i++) {
            LanternBoats x = new LanternBoats();
            x.set(1, 1 + i % 3);
            x.set(3, 5 + i % 40);
            for (int l = 0; l < 3 + i % 3; l++) {
                x.light((i * 37 + l * 61) % 200, 20 + (i * 7 + l * 31) % 80, l % 3, 1 + (i + l) % 20,
                        2 + i % 5, i % 2);
            }
            for (int b = 0; b < 8; b++) {
                x.boat((i * 11 + b * 29) % 200, (i + 3 * b) % 13 - 6);
            }
            x.ticks(3);
            for (int b = 0; b < 8; b++) {
                if (x.boatOf(b, 2) != -1) {
                    x.talk(b, 40 + b);
                }
            }
            int n = 1 + i * 7 % 100;
            int best = -1;
            for (int v = 0; v <= 60; v += 5) {
                if (best == -1 || better(x, v, best, n)) {
                    best = v;
                }
            }
            CHECK.due("bestMargin(" + n + ")", best, x.bestMargin(n));
            seen[best] = true;
        }
        int kinds = 0;
        for (boolean s : seen) {
            kinds += s ? 1 : 0;
        }
        CHECK.holds("many margins are the best once: " + kinds, kinds >= 8);
    }

    private static boolean better(LanternBoats x, int v, int best, int n) {
        int harm = x.ifMargin(v, n, 1) + x.ifMargin(v, n, 3);
        int least = x.ifMargin(best, n, 1) + x.ifMargin(best, n, 3);
        return harm < least || harm == least && x.ifMargin(v, n, 0) < x.ifMargin(best, n, 0);
    }

    private static void dark() {
        LanternBoats x = new LanternBoats();
        CHECK.due("dark without lighthouses", 200, x.dark());
        x.light(50, 50, 0, 1, 1, 0);
        CHECK.due("bright from 0 to 123", 76, x.dark());
        x.lean(0, 30);
        CHECK.due("the leaning is no brightness", 76, x.dark());
        x.set(2, 500 / 2);
        CHECK.due("bright from 40 to 60", 179, x.dark());
        x.set(2, 1);
        CHECK.due("bright everywhere", 0, x.dark());
        x.set(2, 60);
        x.light(199, 10, 2, 1, 1, 0);
        CHECK.due("one more bright place", 75, x.dark());
        x.light(160, 20, 1, 1, 1, 0);
        // 2000 / 33 is 60: bright from 137 to 183.
        CHECK.due("47 more", 28, x.dark());
        x.ticks(1);
        // Half of 2000 / 16 is 62, of 2000 / 17 58: bright from 154 to 166.
        CHECK.due("13 more", 62, x.dark());
    }

    private static void border() {
        LanternBoats x = new LanternBoats();
        CHECK.due("border(0) without lighthouses", -1, x.border(0));
        x.light(0, 50, 0, 1, 1, 0);
        CHECK.due("border(0) with one", -1, x.border(0));
        x.light(100, 50, 0, 1, 1, 0);
        x.light(150, 50, 2, 1, 1, 0);
        // Of those with the same worth at 50 the lower one stays; the third begins at its place.
        CHECK.due("border(0)", 51, x.border(0));
        CHECK.due("border(1)", 150, x.border(1));
        CHECK.due("border(2)", -1, x.border(2));
        CHECK.due("border(most)", -1, x.border(Integer.MAX_VALUE));
        x.lean(0, 30);
        // 71 leaning by 30 and 100 at 60, 70 leaning by 30 and 102 at 61.
        CHECK.due("the leaning moves it", 61, x.border(0));
        x.light(0, 99, 2, 2, 1, 0);
        CHECK.due("from place 1 on", 1, x.border(0));
        CHECK.due("then", 61, x.border(1));
        x.light(199, 99, 2, 1, 1, 0);
        CHECK.due("up to place 199", 199, x.border(3));
        CHECK.due("no more", -1, x.border(4));
        for (int k : new int[] {-1, Integer.MIN_VALUE}) {
            CHECK.outOfRange("border(" + k + ")", () -> x.border(k));
        }
        // What shines from the one end to the other has no border at the ends.
        LanternBoats y = new LanternBoats();
        y.light(100, 10, 0, 1, 1, 0);
        y.light(0, 99, 2, 1, 1, 0);
        y.light(199, 99, 2, 2, 1, 0);
        y.lean(0, -30);
        CHECK.due("in the middle", 101, y.border(0));
        CHECK.due("nowhere else", -1, y.border(1));
    }

    private static void room() {
        LanternBoats x = new LanternBoats();
        CHECK.due("room without lighthouses", 0, x.room());
        x.light(0, 50, 0, 1, 3, 2);
        x.light(199, 50, 0, 1, 6, 0);
        CHECK.due("room", 9, x.room());
        x.boat(0, 0);
        x.boat(0, 0);
        x.boat(199, 0);
        CHECK.due("room before the tick", 9, x.room());
        x.ticks(1);
        CHECK.due("room with two that are served", 7, x.room());
    }

    private static void changesNothing() {
        LanternBoats x = Coasts.twoLights(1, 0);
        x.ticks(5);
        x.append('C');
        String before = Coasts.seen(x);
        x.handedIn(0, 0);
        x.ifMargin(0, 200, 0);
        x.bestMargin(100);
        x.dark();
        x.border(0);
        x.room();
        x.runScript(2, 100060400050L);
        x.simulate(1, 60);
        CHECK.holds("what would be changes nothing", before.equals(Coasts.seen(x)));
        CHECK.due("nor what is remembered", 3, x.undo());
        CHECK.wrongState("nor the save slots", () -> x.restore(0));
        CHECK.due("nor the text", 1, x.clearText());
    }
}
