/** Promises 21 to 28 at their edges: the first and the last tick of a span, the last digit, the greatest numbers. */
public final class ForecastEdgeTest {
    private static final Check CHECK = new Check("ForecastEdgeTest");
    private static final int NONE = -1;
    private static final int FINE = -1;

    public static void main(String[] args) {
        handedInTheFirstTick();
        handedInTheLastTick();
        handedInOfNothing();
        ifMarginAtItsEnds();
        ifMarginOfTheLastTick();
        ifMarginCountsEach();
        bestMarginAtItsEnds();
        bestMarginOfTheLastTick();
        bestMarginCountsBothHarms();
        dark();
        borderAtTheEnds();
        borderOfMany();
        room();
        scriptLengths();
        scriptValues();
        scriptOfNothing();
        scriptOfAllThatIsFull();
        scriptStopsAtTheFirst();
        simulateOneTurn();
        simulateAtTheLimitOf99();
        CHECK.end();
    }

    /** A boat that is at 199, where alone the lighthouse 1 shines, behind so many ticks, the ends of 47 and 100. */
    private static LanternBoats arriving(int ticks, int leastTime) {
        LanternBoats x = new LanternBoats();
        x.light(0, 99, 0, 1, 6, 0);
        x.light(199, 10, 2, 1, 6, 0);
        x.set(2, 1);
        x.set(1, leastTime);
        x.boat(199 - ticks, 1);
        return x;
    }

    /** The same from place 0 on with the speed -1, so that it stays for a tick: at 199 behind 200 ticks. */
    private static LanternBoats arrivingLast(int leastTime) {
        LanternBoats x = arriving(199, leastTime);
        x.steer(0, -1);
        return x;
    }

    private static void handed(LanternBoats x, int b, int ticks, int l, int p) {
        CHECK.due("handedIn(" + b + ", 0)", ticks, x.handedIn(b, 0));
        CHECK.due("handedIn(" + b + ", 1)", l, x.handedIn(b, 1));
        CHECK.due("handedIn(" + b + ", 2)", p, x.handedIn(b, 2));
    }

    // ---- 21.

    private static void handedInTheFirstTick() {
        LanternBoats x = arriving(2, 1);
        handed(x, 0, 2, 1, 199);
        x.ticks(1);
        handed(x, 0, 1, 1, 199);
        x.ticks(1);
        CHECK.due("handed on", 1, x.boatOf(0, 7));
        handed(x, 0, NONE, NONE, NONE);
    }

    private static void handedInTheLastTick() {
        handed(arriving(199, 1), 0, 199, 1, 199);
        handed(arriving(199, 2), 0, 200, 1, 199);
        handed(arrivingLast(1), 0, 200, 1, 199);
        handed(arrivingLast(2), 0, NONE, NONE, NONE);
        LanternBoats x = arrivingLast(2);
        x.ticks(1);
        handed(x, 0, 200, 1, 199);
        LanternBoats last = new LanternBoats();
        for (int b = 0; b < 7; b++) {
            last.boat(0, 0);
        }
        last.light(0, 99, 0, 1, 1, 1);
        last.light(0, 50, 0, 1, 1, 0);
        last.boat(0, 0);
        handed(last, 0, 4, 0, 0);
        handed(last, 7, NONE, NONE, NONE);
    }

    private static void handedInOfNothing() {
        LanternBoats x = new LanternBoats();
        CHECK.noSuchIndex("handedIn without boats", () -> x.handedIn(0, 0));
        x.boat(0, 0);
        handed(x, 0, NONE, NONE, NONE);
        x.light(0, 50, 0, 1, 1, 0);
        handed(x, 0, NONE, NONE, NONE);
        CHECK.outOfRange("handedIn(0, 3)", () -> x.handedIn(0, 3));
        CHECK.noSuchIndex("handedIn(1, 3)", () -> x.handedIn(1, 3));
    }

    // ---- 22.

    private static void ifMarginAtItsEnds() {
        // The lighthouse 1 is worth 100 more, so that the margin 100 is enough, and 101 would be too much.
        LanternBoats x = new LanternBoats();
        x.light(100, 50, 0, 1, 1, 0);
        x.light(100, 60, 0, 1, 1, 1);
        x.boat(100, 0);
        x.set(1, 1);
        x.ticks(1);
        CHECK.due("the margin 100 in 1 tick", 1, x.ifMargin(100, 1, 0));
        CHECK.due("the margin 0 in 1 tick", 1, x.ifMargin(0, 1, 0));
        CHECK.due("the margin 100 in 200 ticks", 1, x.ifMargin(100, 200, 0));
        x.lean(1, -1);
        CHECK.due("99 more and the margin 100", 0, x.ifMargin(100, 200, 0));
        x.dim(1, 50);
        x.lean(1, 0);
        CHECK.due("as much and the margin 0", 1, x.ifMargin(0, 1, 0));
        CHECK.due("as much and the margin 1", 0, x.ifMargin(1, 200, 0));
        CHECK.due("the margin stays as it is", 10, x.setting(0));
    }

    private static void ifMarginOfTheLastTick() {
        CHECK.due("handed on in the tick 200 of 200", 1, arriving(199, 2).ifMargin(10, 200, 0));
        CHECK.due("handed on in the tick 200 of 199", 0, arriving(199, 2).ifMargin(10, 199, 0));
        CHECK.due("handed on in the tick 201", 0, arrivingLast(2).ifMargin(10, 200, 0));
        LanternBoats x = arrivingLast(2);
        x.ticks(1);
        CHECK.due("behind the first of them", 1, x.ifMargin(10, 200, 0));
        CHECK.due("handed on in the tick 2 of 1", 0, arriving(2, 1).ifMargin(10, 1, 0));
        CHECK.due("handed on in the tick 2 of 2", 1, arriving(2, 1).ifMargin(10, 2, 0));
    }

    /** Eight boats that are handed on, go back, are refused or lose their talks. */
    private static void ifMarginCountsEach() {
        LanternBoats x = new LanternBoats();
        x.light(100, 50, 0, 1, 6, 0);
        x.light(100, 60, 0, 1, 4, 4);
        x.set(1, 1);
        for (int b = 0; b < 6; b++) {
            x.boat(100, 0);
        }
        x.ticks(1);
        CHECK.due("handed on, as many as it can serve", 4, x.ifMargin(100, 1, 0));
        CHECK.due("refused, the others", 2, x.ifMargin(100, 1, 2));
        CHECK.due("refused in 200 ticks", 400, x.ifMargin(100, 200, 2));
        CHECK.due("back and forth", 0, x.ifMargin(100, 200, 1));
        x.ticks(1);
        CHECK.due("what was is not counted", 0, x.ifMargin(100, 1, 0));
        x.dim(1, 40);
        CHECK.due("back and forth", 4, x.ifMargin(100, 1, 1));
        CHECK.due("not with a margin too great", 0, x.ifMargin(100, 1, 2));
        for (int b = 0; b < 6; b++) {
            x.talk(b, 99);
        }
        x.set(2, 300);
        x.dim(0, 10);
        x.dim(1, 10);
        CHECK.due("talks lost", 6, x.ifMargin(0, 1, 3));
        CHECK.due("talks lost once", 6, x.ifMargin(0, 200, 3));
    }

    // ---- 23.

    /** Behind the tick 2 at the lighthouse 1, back to 0 in the next one if that is worth as much more. */
    private static LanternBoats tempted(int more) {
        LanternBoats x = new LanternBoats();
        x.light(100, 50, 0, 1, 6, 0);
        x.light(100, 50, 0, 1, 6, 0);
        x.boat(100, 0);
        x.set(1, 1);
        x.ticks(1);
        x.lean(1, 30);
        x.ticks(1);
        CHECK.due("handed on", 1, x.boatOf(0, 2));
        x.lean(1, -30);
        x.lean(0, more - 30);
        return x;
    }

    private static void bestMarginAtItsEnds() {
        for (int n : new int[] {1, 2, 99, 100}) {
            CHECK.due("bestMargin without boats", 0, new LanternBoats().bestMargin(n));
            CHECK.due("as much, the margin 0 would go back", 5, tempted(0).bestMargin(n));
            CHECK.due("4 more", 5, tempted(4).bestMargin(n));
            CHECK.due("5 more", 10, tempted(5).bestMargin(n));
            CHECK.due("54 more", 55, tempted(54).bestMargin(n));
            CHECK.due("55 more", 60, tempted(55).bestMargin(n));
            CHECK.due("59 more: the largest margin alone", 60, tempted(59).bestMargin(n));
            CHECK.due("60 more: all are the same", 0, tempted(60).bestMargin(n));
        }
        LanternBoats x = tempted(5);
        x.set(0, 100);
        CHECK.due("whatever the margin is now", 10, x.bestMargin(1));
        CHECK.due("which stays", 100, x.setting(0));
    }

    /** 53 more at 199: with margins up to 50 handed on, which is worse where the harm is the same. */
    private static void bestMarginOfTheLastTick() {
        CHECK.due("handed on in the tick 100 of 100", 55, arriving(100, 1).bestMargin(100));
        CHECK.due("handed on in the tick 100 of 99", 0, arriving(100, 1).bestMargin(99));
        CHECK.due("handed on in the tick 101 of 100", 0, arriving(101, 1).bestMargin(100));
        CHECK.due("handed on in the tick 1 of 1", 0, arriving(2, 1).bestMargin(1));
    }

    /** A boat that would go back, and one that would lose its talk if it were not handed on. */
    private static void bestMarginCountsBothHarms() {
        LanternBoats x = tempted(20);
        CHECK.due("it would go back with 20", 25, x.bestMargin(100));
        x.talk(0, 99);
        CHECK.due("it talks on", 25, x.bestMargin(100));
        LanternBoats y = new LanternBoats();
        y.light(0, 50, 0, 1, 6, 0);
        y.light(100, 50, 0, 1, 6, 6);
        y.boat(40, 2);
        y.ticks(1);
        y.talk(0, 99);
        // 55 more at 68, 63 at 70, 71 at 72; at 74 it sees too little, with the other one at 174.
        CHECK.due("lost with the margin 60", 1, y.ifMargin(60, 30, 3));
        CHECK.due("handed on in time with the margin 55", 0, y.ifMargin(55, 30, 3));
        CHECK.due("of those with which it is not lost the lowest", 0, y.bestMargin(30));
        CHECK.due("lost sooner or later: handed on least often", 60, y.bestMargin(100));
    }

    // ---- 24. to 26.

    private static void dark() {
        LanternBoats x = new LanternBoats();
        CHECK.due("dark without lighthouses", 200, x.dark());
        x.set(2, 1);
        CHECK.due("and the least setting 2", 200, x.dark());
        x.light(0, 10, 0, 1, 1, 0);
        CHECK.due("a lighthouse that is seen everywhere", 0, x.dark());
        x.set(2, 4);
        CHECK.due("4 at 199 away is at least 4", 0, x.dark());
        x.set(2, 5);
        // 1000 / 200 is 5 at 190.
        CHECK.due("but not at least 5", 9, x.dark());
        x.set(2, 100);
        CHECK.due("100 at its own place alone", 199, x.dark());
        x.set(2, 101);
        CHECK.due("nowhere 101", 200, x.dark());
        x.lean(0, 30);
        CHECK.due("the leaning is no brightness", 200, x.dark());
        x.set(2, 300);
        for (int l = 1; l < 6; l++) {
            x.light(20 * l, 30, 0, 1, 1, 0);
        }
        CHECK.due("five that are just 300 at their places", 195, x.dark());
    }

    private static void borderAtTheEnds() {
        LanternBoats x = new LanternBoats();
        for (int k : new int[] {0, 1, Integer.MAX_VALUE}) {
            CHECK.due("border(" + k + ") without lighthouses", NONE, x.border(k));
        }
        x.light(0, 10, 0, 1, 1, 0);
        CHECK.due("border(0) with one lighthouse", NONE, x.border(0));
        x.light(199, 99, 2, 1, 1, 0);
        x.light(0, 99, 2, 2, 1, 0);
        CHECK.due("from place 1 on", 1, x.border(0));
        CHECK.due("to place 199", 199, x.border(1));
        CHECK.due("and no further", NONE, x.border(2));
        CHECK.due("the largest k", NONE, x.border(Integer.MAX_VALUE));
        CHECK.outOfRange("border(-1)", () -> x.border(-1));
        CHECK.outOfRange("the smallest k", () -> x.border(Integer.MIN_VALUE));
    }

    private static void borderOfMany() {
        LanternBoats x = new LanternBoats();
        for (int l = 0; l < 6; l++) {
            x.light(20 + 30 * l, 50, 0, 1, 1, 0);
        }
        // Half way between two of them both are worth as much: the lower one stays there.
        for (int k = 0; k < 5; k++) {
            CHECK.due("border(" + k + ")", 36 + 30 * k, x.border(k));
        }
        CHECK.due("border(5)", NONE, x.border(5));
    }

    private static void room() {
        LanternBoats x = new LanternBoats();
        CHECK.due("room without lighthouses", 0, x.room());
        for (int l = 0; l < 6; l++) {
            x.light(100, 50, 0, 1, 6, l);
            CHECK.due("room, those reserved too", 6 * l + 6, x.room());
        }
        for (int b = 0; b < 8; b++) {
            x.boat(100, 0);
        }
        x.ticks(1);
        CHECK.due("room with all eight served", 28, x.room());
        LanternBoats y = new LanternBoats();
        y.light(100, 50, 0, 1, 1, 0);
        y.boat(100, 0);
        y.ticks(1);
        CHECK.due("room of one that is full", 0, y.room());
    }

    // ---- 27.

    private static void scriptLengths() {
        LanternBoats x = new LanternBoats();
        CHECK.due("runScript(1, 0)", 0, x.runScript(1, 0));
        CHECK.due("the smallest that succeeds", FINE, x.runScript(1, 100001));
        CHECK.due("the largest of 6 digits", 0, x.runScript(1, 999999));
        CHECK.outOfRange("7 digits", () -> x.runScript(1, 1000000));
        CHECK.outOfRange("12 digits for one command", () -> x.runScript(1, 100001100001L));
        CHECK.due("6 digits for two commands", 0, x.runScript(2, 100001));
        CHECK.due("the largest of 12 digits", 0, x.runScript(2, 999999999999L));
        CHECK.outOfRange("13 digits", () -> x.runScript(2, 1000000000000L));
        CHECK.due("the largest of 18 digits", 0, x.runScript(3, 999999999999999999L));
        CHECK.outOfRange("19 digits", () -> x.runScript(3, 1000000000000000000L));
        CHECK.outOfRange("the largest of all", () -> x.runScript(3, Long.MAX_VALUE));
        CHECK.outOfRange("-1", () -> x.runScript(3, -1));
        CHECK.outOfRange("the smallest of all", () -> x.runScript(3, Long.MIN_VALUE));
        CHECK.outOfRange("no command", () -> x.runScript(0, 0));
        CHECK.outOfRange("four commands", () -> x.runScript(4, 100001));
    }

    /** A lighthouse and two boats at 0, both served, and one at 199 that is not; the time is 1. */
    private static LanternBoats three() {
        LanternBoats x = new LanternBoats();
        x.light(0, 99, 0, 1, 2, 0);
        x.boat(0, 0);
        x.boat(0, 0);
        x.boat(199, 0);
        x.ticks(1);
        return x;
    }

    private static void values(LanternBoats x, int due, long... groups) {
        for (long group : groups) {
            CHECK.due("runScript(1, " + group + ")", due, x.runScript(1, group));
        }
    }

    private static void scriptValues() {
        LanternBoats x = three();
        values(x, FINE, 100001, 100060, 200000, 200012, 210000, 220012, 300001, 300099, 310099);
        values(x, 0, 100000, 100061, 100099, 200013, 200099, 230006, 300000, 320001, 330001);
        values(x, FINE, 400000, 400100, 410001, 410010, 420001, 420300, 430000, 430050);
        values(x, 0, 400101, 400999, 410000, 410011, 420000, 420301, 430051, 440001, 490001);
        values(x, FINE, 500000, 500030, 500060, 600000, 610000, 700000, 710000, 720199);
        values(x, 0, 500061, 500099, 510030, 600001, 600009, 620000, 630000, 700001, 720198, 720200, 730000);
        values(x, FINE, 800001, 810003, 820001, 830002, 840000, 850000, 890002, 800099, 890099);
        values(x, 0, 800000, 810002, 820000, 830001, 890001);
        values(x, FINE, 900000, 900001, 900002);
        values(x, 0, 900003, 900009, 910000, 910001, 950000, 990000);
        x.ticks(60);
        x.ticks(38);
        values(x, FINE, 820099);
        x.ticks(1);
        values(x, 0, 820099);
    }

    private static void scriptOfNothing() {
        LanternBoats x = new LanternBoats();
        values(x, FINE, 100001, 400000, 800000, 810000, 890000);
        values(x, 0, 200006, 300001, 500030, 600000, 700000, 900000);
        CHECK.due("the third fails", 2, x.runScript(3, 100060_100060_820099L));
        CHECK.due("the third succeeds", FINE, x.runScript(3, 100060_100039_820099L));
    }

    private static void scriptOfAllThatIsFull() {
        LanternBoats x = new LanternBoats();
        for (int l = 0; l < 6; l++) {
            x.light(199, 99, 0, 1, 6, 0);
        }
        for (int b = 0; b < 8; b++) {
            x.boat(199, 0);
        }
        x.ticks(1);
        values(x, FINE, 270000, 370099, 550060, 600000, 670001, 770199, 900006, 910002, 950000);
        values(x, 0, 280000, 380099, 560060, 670000, 680001, 670006, 780199, 900007, 910003, 960000);
    }

    private static void scriptStopsAtTheFirst() {
        LanternBoats x = three();
        CHECK.due("the first of three that fail", 0, x.runScript(3, 0));
        CHECK.due("the second of two that fail", 1, x.runScript(3, 100001_000000_000000L));
        CHECK.due("the third", 2, x.runScript(3, 100001_100001_000000L));
        CHECK.due("none", FINE, x.runScript(3, 100001_100001_820003L));
        CHECK.due("the ticks of both commands", 2, x.runScript(3, 100001_100001_820002L));
        CHECK.due("each script begins with the state", FINE, x.runScript(1, 820001));
        CHECK.due("the time", 1, x.about(2));
    }

    // ---- 28.

    /** One turn: ticks, on a coast where in each tick all boats are handed on. */
    private static void simulateOneTurn() {
        LanternBoats x = new LanternBoats();
        CHECK.due("simulate without anything", 0, x.simulate(0, 1));
        CHECK.outOfRange("no turn", () -> x.simulate(0, 0));
        CHECK.outOfRange("61 turns", () -> x.simulate(0, 61));
        for (long seed : new long[] {0, 1, -1, Long.MIN_VALUE, Long.MAX_VALUE}) {
            CHECK.due("the same again", x.simulate(seed, 60), x.simulate(seed, 60));
        }
        CHECK.due("about(2)", 0, x.about(2));
    }

    /** Six boats that blinking lets go back and forth in every tick; how often, told by the turns themselves. */
    private static void simulateAtTheLimitOf99() {
        boolean[] seen = new boolean[3];
        for (long seed = 0; seed < 3000; seed++) {
            LanternBoats x = swinging();
            int m = 8 + (int) (seed % 9);
            int answer = x.simulate(seed, m);
            if (answer / 100 % 100 < 98) {
                continue;
            }
            int backs = backsByTurns(x, seed, m);
            CHECK.due("back and forth " + backs + " times", Math.min(99, backs), answer / 100 % 100);
            CHECK.due("handed on", x.about(5), answer / 10000);
            if (backs >= 98 && backs <= 100) {
                seen[backs - 98] = true;
            }
        }
        CHECK.holds("98 times", seen[0]);
        CHECK.holds("99 times", seen[1]);
        CHECK.holds("100 times", seen[2]);
    }

    private static LanternBoats swinging() {
        LanternBoats x = new LanternBoats();
        x.set(0, 0);
        x.set(1, 1);
        x.set(3, 50);
        x.light(100, 60, 0, 1, 6, 0);
        x.light(100, 99, 1, 1, 6, 0);
        for (int b = 0; b < 3; b++) {
            x.boat(100, 0);
        }
        return x;
    }

    private static int backsByTurns(LanternBoats x, long seed, int m) {
        long s = seed;
        for (int i = 0; i < m; i++) {
            s = s * 6364136223846793005L + 1442695040888963407L;
            int r = (int) (s >>> 33);
            try {
                ScriptTest.turn(x, r % 16, r / 16);
            } catch (IndexOutOfBoundsException | IllegalArgumentException | IllegalStateException e) {
                continue;
            }
        }
        return x.about(6);
    }
}
