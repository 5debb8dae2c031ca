/** Promise 19: what a tick does, rule by rule. */
public final class TickTest {
    private static final Check CHECK = new Check("TickTest");

    public static void main(String[] args) {
        ticks();
        places();
        tooDark();
        lostTalk();
        lostAndTakenInOneTick();
        margin();
        leaningMakesTheWish();
        wishChanges();
        wishEnds();
        greatestWish();
        leastTime();
        refused();
        oneLeavesAndOneComes();
        backAndForth();
        backFromAnother();
        takenByTheBrightest();
        reserved();
        talkEnds();
        blinkingIsLookedAtByTheNewTime();
        CHECK.end();
    }

    private static void ticks() {
        LanternBoats x = Coasts.twoLights(6, 0);
        CHECK.due("ticks(8)", 0, x.ticks(8));
        CHECK.due("ticks(1)", 1, x.ticks(1));
        CHECK.due("ticks(60)", 0, new LanternBoats().ticks(60));
        for (int n : new int[] {-1, 0, 61, Integer.MIN_VALUE, Integer.MAX_VALUE}) {
            CHECK.outOfRange("ticks(" + n + ")", () -> x.ticks(n));
        }
        CHECK.due("the time", 9, x.about(2));
        LanternBoats y = Coasts.twoLights(6, 0);
        y.boat(40, 2);
        CHECK.due("ticks(60) of two boats", 2, y.ticks(60));
        CHECK.due("the time", 60, y.about(2));
        CHECK.due("handed on in later ticks alone", 0, y.ticks(1));
    }

    private static void places() {
        LanternBoats x = new LanternBoats();
        int[][] rows = {
            {197, 2, 199, 2}, {198, 2, 198, -2}, {199, 6, 199, -6}, {2, -2, 0, -2}, {1, -2, 1, 2},
            {0, -6, 0, 6}, {199, 0, 199, 0}, {100, -6, 94, -6},
        };
        for (int[] row : rows) {
            x.boat(row[0], row[1]);
        }
        x.ticks(1);
        for (int b = 0; b < rows.length; b++) {
            CHECK.due("the place of the boat " + b, rows[b][2], x.boatOf(b, 0));
            CHECK.due("the speed of the boat " + b, rows[b][3], x.boatOf(b, 1));
        }
        x.ticks(1);
        CHECK.due("the place behind the turn", 196, x.boatOf(1, 0));
        CHECK.due("the place at the end", 199, x.boatOf(0, 0));
        CHECK.due("the speed at the end", -2, x.boatOf(0, 1));
    }

    /** A lighthouse of strength 50 has the brightness 60 at 73 places away (5000 / 83), and 59 behind that. */
    private static LanternBoats leaving(int p) {
        LanternBoats x = new LanternBoats();
        x.light(0, 50, 0, 1, 1, 0);
        x.boat(p, 1);
        return x;
    }

    private static void tooDark() {
        LanternBoats x = leaving(71);
        x.ticks(1);
        CHECK.due("taken at 72", 0, x.boatOf(0, 2));
        x.ticks(1);
        CHECK.due("kept at 73", 0, x.boatOf(0, 2));
        x.ticks(1);
        CHECK.due("not kept at 74", -1, x.boatOf(0, 2));
        CHECK.due("no talk, none lost", 0, x.about(8));
        CHECK.due("nor taken again", 1, x.about(9));
        CHECK.due("served boats", 0, x.lightOf(0, 7));
        LanternBoats y = leaving(73);
        y.ticks(1);
        CHECK.due("not taken at 74", -1, y.boatOf(0, 2));
        y.set(2, 59);
        y.steer(0, 0);
        y.ticks(1);
        CHECK.due("taken at 74 by setting 2", 0, y.boatOf(0, 2));
        LanternBoats z = leaving(73);
        z.lean(0, 30);
        z.ticks(1);
        CHECK.due("the leaning does not make it brighter", -1, z.boatOf(0, 2));
    }

    private static void lostTalk() {
        LanternBoats x = leaving(72);
        x.ticks(1);
        x.talk(0, 50);
        x.ticks(1);
        CHECK.due("the lighthouse", -1, x.boatOf(0, 2));
        CHECK.due("the talk is lost", 0, x.boatOf(0, 3));
        CHECK.due("talks lost", 1, x.about(8));
        CHECK.due("boats that talk", 0, x.about(4));
        LanternBoats last = leaving(72);
        last.ticks(1);
        last.talk(0, 1);
        last.ticks(1);
        CHECK.due("a talk is lost in its last tick too", 1, last.about(8));
        CHECK.due("its ticks", 0, last.boatOf(0, 3));
        LanternBoats y = leaving(72);
        y.ticks(1);
        y.talk(0, 1);
        y.steer(0, 0);
        y.ticks(1);
        y.steer(0, 1);
        y.ticks(1);
        CHECK.due("a talk that had ended is not lost", 0, y.about(8));
    }

    private static void lostAndTakenInOneTick() {
        LanternBoats x = new LanternBoats();
        x.light(50, 99, 2, 2, 1, 0);
        x.light(60, 50, 0, 1, 1, 0);
        x.boat(48, 2);
        x.ticks(1);
        CHECK.due("served by the one that shines to lower places", 0, x.boatOf(0, 2));
        x.talk(0, 9);
        CHECK.due("handed on", 0, x.ticks(1));
        CHECK.due("served by the other", 1, x.boatOf(0, 2));
        CHECK.due("the talk is lost all the same", 1, x.about(8));
        CHECK.due("its ticks", 0, x.boatOf(0, 3));
        CHECK.due("served without being handed on", 2, x.about(9));
        CHECK.due("it left none by being handed on", -1, x.boatOf(0, 6));
        CHECK.due("how often handed on", 0, x.boatOf(0, 7));
    }

    private static void margin() {
        // At 54 the worths are 78 and 89.
        for (int margin = 10; margin <= 12; margin++) {
            LanternBoats x = Coasts.twoLights(6, 0);
            x.set(0, margin);
            x.ticks(7);
            CHECK.due("the wish at 54 with the margin " + margin, margin <= 11 ? 1 : -1, x.boatOf(0, 4));
            CHECK.due("its ticks", margin <= 11 ? 1 : 0, x.boatOf(0, 5));
        }
        // With the margin 0 the same worth is enough: at 50 both have 83.
        LanternBoats y = Coasts.twoLights(6, 0);
        y.set(0, 0);
        y.ticks(4);
        CHECK.due("the wish at 48", -1, y.boatOf(0, 4));
        y.ticks(1);
        CHECK.due("the wish at 50", 1, y.boatOf(0, 4));
    }

    private static void leaningMakesTheWish() {
        LanternBoats x = Coasts.twoLights(6, 0);
        x.lean(1, 11);
        x.ticks(4);
        CHECK.due("the wish at 48 (86, and 80 leaning by 11)", -1, x.boatOf(0, 4));
        x.ticks(1);
        CHECK.due("the wish at 50 (83, and 83 leaning by 11)", 1, x.boatOf(0, 4));
        LanternBoats y = Coasts.twoLights(6, 0);
        y.lean(0, 2);
        y.ticks(7);
        CHECK.due("the wish at 54 (78 leaning by 2, and 89)", -1, y.boatOf(0, 4));
    }

    private static void wishChanges() {
        LanternBoats x = Coasts.twoLights(6, 0);
        x.light(150, 50, 0, 1, 6, 0);
        x.ticks(8);
        CHECK.due("the wish", 1, x.boatOf(0, 4));
        CHECK.due("its ticks", 2, x.boatOf(0, 5));
        x.dim(2, 99);
        x.lean(2, 30);
        x.lean(1, -5);
        // At 58: 73 of the lighthouse 0, 96 less 5 of 1, 97 and 30 of 2.
        CHECK.due("handed on", 0, x.ticks(1));
        CHECK.due("another wish", 2, x.boatOf(0, 4));
        CHECK.due("begins with 1 tick", 1, x.boatOf(0, 5));
        CHECK.due("handed on behind two more", 1, x.ticks(2));
        CHECK.due("served by", 2, x.boatOf(0, 2));
    }

    private static void wishEnds() {
        LanternBoats x = Coasts.twoLights(6, 0);
        x.ticks(8);
        x.set(0, 100);
        x.ticks(1);
        CHECK.due("the wish", -1, x.boatOf(0, 4));
        CHECK.due("its ticks", 0, x.boatOf(0, 5));
        x.set(0, 10);
        x.ticks(2);
        CHECK.due("the ticks begin anew", 2, x.boatOf(0, 5));
        CHECK.due("handed on", 1, x.ticks(1));
        LanternBoats y = Coasts.twoLights(6, 0);
        y.ticks(8);
        y.set(2, 100);
        y.ticks(1);
        CHECK.due("the lighthouse of a boat that sees too little", -1, y.boatOf(0, 2));
        CHECK.due("its wish", -1, y.boatOf(0, 4));
        CHECK.due("its ticks", 0, y.boatOf(0, 5));
    }

    private static void greatestWish() {
        LanternBoats x = new LanternBoats();
        x.light(100, 50, 0, 1, 6, 0);
        x.boat(100, 0);
        x.ticks(1);
        x.light(100, 60, 0, 1, 6, 0);
        x.light(100, 61, 0, 1, 6, 0);
        x.light(100, 61, 0, 1, 6, 0);
        x.ticks(1);
        CHECK.due("the greatest, of two the lowest", 2, x.boatOf(0, 4));
        x.lean(3, 1);
        x.ticks(1);
        CHECK.due("the greatest with its leaning", 3, x.boatOf(0, 4));
        // A wish need not be bright, only of a greater worth.
        LanternBoats y = new LanternBoats();
        y.light(100, 10, 0, 1, 6, 0);
        y.light(110, 10, 0, 1, 6, 0);
        y.lean(0, -30);
        y.lean(1, 30);
        y.boat(100, 0);
        y.ticks(1);
        CHECK.due("served by the only one that is bright enough", 0, y.boatOf(0, 2));
        y.ticks(1);
        CHECK.due("the wish (70, and 50 leaning by 30)", 1, y.boatOf(0, 4));
        y.ticks(2);
        CHECK.due("handed on", 1, y.boatOf(0, 2));
        y.ticks(1);
        CHECK.due("by which it sees too little", 0, y.boatOf(0, 2));
        CHECK.due("handed on once", 1, y.about(5));
    }

    private static void leastTime() {
        for (int least = 1; least <= 10; least++) {
            LanternBoats x = Coasts.twoLights(6, 0);
            x.set(1, least);
            x.ticks(5 + least);
            CHECK.due("handed on too soon", 0, x.about(5));
            CHECK.due("handed on behind " + least + " ticks", 1, x.ticks(1));
        }
    }

    private static void refused() {
        LanternBoats x = Coasts.twoLights(1, 0);
        x.boat(100, 0);
        CHECK.due("ticks", 0, x.ticks(9));
        CHECK.due("refused", 1, x.about(7));
        CHECK.due("the wish stays", 1, x.boatOf(0, 4));
        CHECK.due("and its ticks", 3, x.boatOf(0, 5));
        x.ticks(1);
        CHECK.due("refused again", 2, x.about(7));
        CHECK.due("its ticks go on", 4, x.boatOf(0, 5));
        CHECK.due("it stays", 0, x.boatOf(0, 2));
        x.steer(1, 6);
        x.set(2, 67);
        x.set(0, 0);
        // Boat 0 has 67 of the lighthouse 0 at 64 still, and 65 at 66.
        x.ticks(2);
        CHECK.due("refused", 4, x.about(7));
        x.ticks(1);
        CHECK.due("served by none", -1, x.boatOf(0, 2));
        CHECK.due("refused no more", 4, x.about(7));
    }

    private static void oneLeavesAndOneComes() {
        // The lower boat goes first, so a place that it gives up is free for the higher one in the same tick.
        LanternBoats x = new LanternBoats();
        x.light(100, 50, 0, 1, 1, 0);
        x.boat(173, 0);
        x.boat(99, 0);
        x.ticks(1);
        CHECK.due("the lower one is served", 1, x.lightOf(0, 7));
        x.steer(0, 1);
        x.ticks(1);
        CHECK.due("the higher one is served", 2, x.lightOf(0, 7));
        LanternBoats y = new LanternBoats();
        y.light(100, 50, 0, 1, 1, 0);
        y.boat(174, 0);
        y.boat(173, 0);
        y.ticks(1);
        CHECK.due("the higher one is served", 2, y.lightOf(0, 7));
        y.steer(0, -1);
        y.steer(1, 1);
        y.ticks(1);
        CHECK.due("the lower one came too early", 0, y.lightOf(0, 7));
        y.ticks(1);
        CHECK.due("a tick later it is served", 1, y.lightOf(0, 7));
    }

    /** Handed on in the tick 9, and back in the tick 13. */
    private static LanternBoats thereAndBack(int soon) {
        LanternBoats x = Coasts.twoLights(6, 0);
        x.set(3, soon);
        x.ticks(9);
        x.steer(0, -6);
        x.ticks(4);
        return x;
    }

    private static void backAndForth() {
        for (int soon = 0; soon <= 12; soon++) {
            LanternBoats x = thereAndBack(soon);
            CHECK.due("handed on", 2, x.about(5));
            CHECK.due("back and forth with setting 3 as " + soon, soon < 4 ? 0 : 1, x.about(6));
            CHECK.due("of the boat", soon < 4 ? 0 : 1, x.boatOf(0, 8));
            CHECK.due("it left last", 1, x.boatOf(0, 6));
        }
        LanternBoats y = thereAndBack(4);
        y.steer(0, 6);
        // Places 40, 46, 52, 58, 64, 70: the wish from 58 on, handed on in the tick 19, 6 ticks behind the tick 13.
        CHECK.due("handed on", 1, y.ticks(6));
        CHECK.due("back and forth", 1, y.about(6));
        y.undo();
        y.set(3, 6);
        CHECK.due("handed on", 1, y.ticks(6));
        CHECK.due("back and forth", 2, y.about(6));
        CHECK.due("of the boat", 2, y.boatOf(0, 8));
    }

    private static void backFromAnother() {
        LanternBoats x = new LanternBoats();
        for (int l = 0; l < 3; l++) {
            x.light(100, 50, 0, 1, 6, 0);
        }
        x.boat(100, 0);
        x.set(1, 1);
        x.set(3, 50);
        x.ticks(1);
        x.lean(1, 30);
        CHECK.due("from 0 to 1", 1, x.ticks(1));
        x.lean(1, 0);
        x.lean(2, 30);
        CHECK.due("from 1 to 2", 1, x.ticks(1));
        CHECK.due("it left last", 1, x.boatOf(0, 6));
        x.lean(2, 0);
        x.lean(0, 30);
        CHECK.due("from 2 to 0", 1, x.ticks(1));
        CHECK.due("that is not back", 0, x.about(6));
        x.lean(0, 0);
        x.lean(2, 30);
        CHECK.due("from 0 to 2", 1, x.ticks(1));
        CHECK.due("that is back", 1, x.about(6));
        CHECK.due("handed on to 2", 2, x.lightOf(2, 8));
    }

    private static void takenByTheBrightest() {
        LanternBoats x = new LanternBoats();
        x.light(100, 40, 0, 1, 1, 0);
        x.light(100, 50, 0, 1, 1, 0);
        x.light(100, 50, 0, 1, 1, 0);
        x.light(100, 49, 0, 1, 1, 0);
        x.lean(3, 20);
        x.boat(100, 0);
        x.boat(100, 0);
        x.boat(100, 0);
        x.boat(100, 0);
        x.boat(100, 0);
        x.set(0, 100);
        x.ticks(1);
        int[] due = {3, 1, 2, 0, -1};
        for (int b = 0; b < due.length; b++) {
            CHECK.due("the lighthouse of the boat " + b, due[b], x.boatOf(b, 2));
        }
        CHECK.due("served without being handed on", 4, x.about(9));
        CHECK.due("served", 4, x.about(3));
    }

    private static void reserved() {
        LanternBoats x = Coasts.twoLights(2, 1);
        x.boat(100, 0);
        x.boat(100, 0);
        x.ticks(8);
        CHECK.due("the reserved place is kept free", 2, x.lightOf(1, 7));
        CHECK.due("the other boat", -1, x.boatOf(2, 2));
        CHECK.due("the boat that is handed on has it", 1, x.ticks(1));
        CHECK.due("both places are taken", 3, x.lightOf(1, 7));
        LanternBoats y = Coasts.twoLights(1, 1);
        y.boat(100, 0);
        y.ticks(8);
        CHECK.due("one that reserves all takes none", 0, y.lightOf(1, 7));
        CHECK.due("but one that is handed on", 1, y.ticks(1));
        CHECK.due("boats", 1, y.lightOf(1, 7));
    }

    private static void talkEnds() {
        LanternBoats x = Coasts.twoLights(6, 0);
        x.ticks(7);
        x.talk(0, 3);
        x.ticks(2);
        CHECK.due("the talk goes on when the boat is handed on", 1, x.boatOf(0, 3));
        CHECK.due("boats that talk", 1, x.about(4));
        x.ticks(1);
        CHECK.due("the talk ends", 0, x.boatOf(0, 3));
        x.ticks(1);
        CHECK.due("and stays so", 0, x.boatOf(0, 3));
        CHECK.due("talks lost", 0, x.about(8));
    }

    private static void blinkingIsLookedAtByTheNewTime() {
        LanternBoats x = new LanternBoats();
        x.light(100, 10, 1, 2, 1, 0);
        x.boat(100, 0);
        for (int time = 1; time <= 9; time++) {
            x.ticks(1);
            CHECK.due("the lighthouse at the time " + time, time % 4 < 2 ? 0 : -1, x.boatOf(0, 2));
        }
        CHECK.due("served without being handed on", 3, x.about(9));
    }
}
