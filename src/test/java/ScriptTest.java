import java.util.Random;

/** Promises 27 and 28: scripts and simulations. */
public final class ScriptTest {
    private static final Check CHECK = new Check("ScriptTest");
    private static final int FINE = -1;

    public static void main(String[] args) {
        runScript();
        eachCommand();
        zerosAreAsked();
        runScriptRefuses();
        runScriptIsOnACopy();
        simulate();
        simulateByTheFace();
        simulateShowsAtMost99();
        simulateRefuses();
        CHECK.end();
    }

    /** Two lighthouses; boat 0 at 46, served by 0 and talking, boat 1 at 100, served by 1; the time is 3. */
    private static LanternBoats coast() {
        LanternBoats x = Coasts.twoLights(2, 0);
        x.boat(100, 0);
        x.ticks(3);
        x.talk(0, 20);
        return x;
    }

    private static void one(long script, int due) {
        CHECK.due("runScript(1, " + script + ")", due, coast().runScript(1, script));
    }

    private static void runScript() {
        LanternBoats x = coast();
        CHECK.due("three commands", FINE, x.runScript(3, 100006_600001_700058L));
        CHECK.due("the first fails", 0, x.runScript(3, 700058_100006_600001L));
        CHECK.due("the second fails", 1, x.runScript(3, 100005_600001_700058L));
        CHECK.due("the third fails", 2, x.runScript(3, 100006_600001_700057L));
        CHECK.due("two commands", FINE, x.runScript(2, 100001_700048L));
        CHECK.due("the first of zeros", 0, x.runScript(2, 700046L));
        CHECK.due("of zeros alone", 0, x.runScript(3, 0));
        CHECK.due("what one changes the next one has", FINE, x.runScript(3, 200000_100001_700040L));
        CHECK.due("by its margin", FINE, x.runScript(3, 400000_100004_600001L));
        CHECK.due("by its margin not yet", 2, x.runScript(3, 400000_100003_600001L));
        CHECK.due("by its leaning", FINE, x.runScript(3, 510060_100003_600001L));
    }

    private static void eachCommand() {
        one(100001, FINE);
        one(100060, FINE);
        one(100000, 0);
        one(100061, 0);
        one(200012, FINE);
        one(200013, 0);
        one(200000, FINE);
        one(210000, FINE);
        one(220000, 0);
        one(280000, 0);
        one(300001, FINE);
        one(300099, FINE);
        one(310099, FINE);
        one(300000, 0);
        one(320001, 0);
        CHECK.due("a talk of a boat that nothing serves", 0, Coasts.twoLights(1, 0).runScript(1, 300001));
        one(400100, FINE);
        one(400101, 0);
        one(410010, FINE);
        one(410000, 0);
        one(410011, 0);
        one(420300, FINE);
        one(420301, 0);
        one(420000, 0);
        one(430050, FINE);
        one(430051, 0);
        one(440005, 0);
        one(500000, FINE);
        one(500060, FINE);
        one(500061, 0);
        one(520030, 0);
        one(600000, FINE);
        one(600001, 0);
        one(610001, FINE);
        one(610000, 0);
        one(600009, 0);
        one(620000, 0);
        one(700046, FINE);
        one(700047, 0);
        one(710100, FINE);
        one(720000, 0);
        one(800002, FINE);
        one(800001, 0);
        one(820003, FINE);
        one(820002, 0);
        one(820099, FINE);
        one(890001, 0);
        one(890002, FINE);
        one(900001, FINE);
        one(900002, 0);
        one(900000, FINE);
        one(920000, 0);
        one(46, 0);
        one(0, 0);
        one(99999, 0);
    }

    private static void zerosAreAsked() {
        one(110001, 0);
        one(101001, 0);
        one(100101, 0);
        one(201006, 0);
        one(200106, 0);
        one(301001, 0);
        one(300101, 0);
        one(401010, 0);
        one(501030, 0);
        one(500130, 0);
        one(610011, 0);
        one(610101, 0);
        one(611001, 0);
        one(701046, 0);
        one(801002, 0);
        one(800100, 0);
        one(880100, 0);
        one(800102, 0);
        one(900010, 0);
        one(900100, 0);
        one(901000, 0);
    }

    private static void runScriptRefuses() {
        LanternBoats x = new LanternBoats();
        for (int n : new int[] {-1, 0, 4, Integer.MIN_VALUE, Integer.MAX_VALUE}) {
            CHECK.outOfRange("runScript(" + n + ", 100001)", () -> x.runScript(n, 100001));
        }
        CHECK.outOfRange("runScript(0, 0)", () -> x.runScript(0, 0));
        for (int n = 1; n <= 3; n++) {
            int commands = n;
            CHECK.outOfRange("runScript(n, -1)", () -> x.runScript(commands, -1));
            CHECK.outOfRange("runScript(n, least)", () -> x.runScript(commands, Long.MIN_VALUE));
            CHECK.outOfRange("runScript(n, most)", () -> x.runScript(commands, Long.MAX_VALUE));
            long tooMuch = n == 1 ? 1000000L : n == 2 ? 1000000000000L : 1000000000000000000L;
            CHECK.outOfRange("runScript(" + n + ", " + tooMuch + ")", () -> x.runScript(commands, tooMuch));
            CHECK.due("runScript(" + n + ", of nines)", 0, x.runScript(n, tooMuch - 1));
        }
    }

    private static void runScriptIsOnACopy() {
        LanternBoats x = coast();
        String before = Coasts.seen(x);
        CHECK.due("runScript", FINE, x.runScript(3, 500060_420300_100060L));
        CHECK.due("runScript", FINE, x.runScript(2, 200012_300099L));
        CHECK.holds("scripts change nothing", before.equals(Coasts.seen(x)));
        CHECK.due("undo", 5, x.undo());
    }

    private static void simulate() {
        LanternBoats x = new LanternBoats();
        CHECK.due("one turn on an empty coast", 0, x.simulate(5, 1));
        CHECK.due("as much again", x.simulate(77, 60), x.simulate(77, 60));
        CHECK.due("nothing is there then", 0, x.about(0) + x.about(1) + x.about(2));
    }

    /** The turns once more, through the face, on the object itself; -1 with what is left out. */
    private static int bySteps(LanternBoats x, long seed, int m) {
        int handed = x.about(5);
        int backs = x.about(6);
        int lost = x.about(8);
        long s = seed;
        for (int i = 0; i < m; i++) {
            s = s * 6364136223846793005L + 1442695040888963407L;
            int r = (int) (s >>> 33);
            try {
                turn(x, r % 16, r / 16);
            } catch (IndexOutOfBoundsException | IllegalArgumentException | IllegalStateException e) {
                continue;
            }
        }
        return 10000 * (x.about(5) - handed) + 100 * Math.min(99, x.about(6) - backs)
                + Math.min(99, x.about(8) - lost);
    }

    static void turn(LanternBoats x, int kind, int q) {
        switch (kind) {
            case 0:
            case 1:
                x.light(q % 200, 10 + q / 256 % 90, q % 3, 1 + q / 8 % 20, 1 + q % 6, q / 32 % 2);
                return;
            case 2:
            case 3:
                x.boat(q % 200, q / 256 % 13 - 6);
                return;
            case 4:
                x.steer(q % 8, q / 8 % 13 - 6);
                return;
            case 5:
            case 6:
                x.talk(q % 8, 1 + q / 8 % 60);
                return;
            case 7:
                if (q / 512 % 2 == 0) {
                    x.lean(q % 6, q / 8 % 61 - 30);
                } else {
                    x.dim(q % 6, 10 + q / 8 % 90);
                }
                return;
            default:
                x.ticks(1 + q % 12);
        }
    }

    private static void simulateByTheFace() {
        Random random = new Random(20);
        int handed = 0;
        int backs = 0;
        int lost = 0;
        for (int i = 0; i < 2000; i++) {
            LanternBoats x = i % 3 == 0 ? new LanternBoats() : coast();
            x.set(0, random.nextInt(30));
            x.set(1, 1 + random.nextInt(4));
            long seed = random.nextLong();
            int m = i % 5 == 0 ? 60 : 1 + random.nextInt(60);
            int answer = x.simulate(seed, m);
            CHECK.due("simulate(" + seed + ", " + m + ")", bySteps(x, seed, m), answer);
            handed += answer / 10000 > 0 ? 1 : 0;
            backs += answer / 100 % 100 > 0 ? 1 : 0;
            lost += answer % 100 > 0 ? 1 : 0;
        }
        CHECK.holds("boats are handed on, back and forth, talks are lost: " + handed + ", " + backs + ", " + lost,
                handed > 200 && backs > 200 && lost > 200);
    }

    private static void simulateShowsAtMost99() {
        LanternBoats x = new LanternBoats();
        x.set(0, 0);
        x.set(1, 1);
        x.set(3, 50);
        x.light(100, 60, 0, 1, 6, 0);
        x.light(100, 99, 1, 1, 6, 0);
        for (int b = 0; b < 6; b++) {
            x.boat(100, 0);
        }
        int answer = x.simulate(3, 60);
        CHECK.due("back and forth", 99, answer / 100 % 100);
        CHECK.holds("handed on more often than that: " + answer, answer / 10000 > 99);
        CHECK.due("the same through the face", bySteps(x, 3, 60), answer);
        CHECK.holds("back and forth more often than 99", x.about(6) > 99);
    }

    private static void simulateRefuses() {
        LanternBoats x = new LanternBoats();
        for (int m : new int[] {-1, 0, 61, Integer.MIN_VALUE, Integer.MAX_VALUE}) {
            CHECK.outOfRange("simulate(1, " + m + ")", () -> x.simulate(1, m));
        }
        for (long seed : new long[] {0, -1, Long.MIN_VALUE, Long.MAX_VALUE}) {
            LanternBoats y = new LanternBoats();
            int answer = y.simulate(seed, 60);
            CHECK.due("simulate(" + seed + ", 60)", bySteps(y, seed, 60), answer);
        }
    }
}
