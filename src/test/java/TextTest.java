/** Promises 2 to 5: the text and what is made of it. */
public final class TextTest {
    private static final Check CHECK = new Check("TextTest");

    public static void main(String[] args) {
        append();
        clearText();
        errorPosition();
        errorPositionOfNumbers();
        errorPositionOfEachCommand();
        load();
        loadLeavesOut();
        loadForgets();
        loadRefuses();
        CHECK.end();
    }

    private static void append() {
        LanternBoats x = new LanternBoats();
        CHECK.due("append('C')", 1, x.append('C'));
        CHECK.due("append(0)", 2, x.append(0));
        CHECK.due("append(255)", 3, x.append(255));
        for (int c : new int[] {-1, 256, Integer.MIN_VALUE, Integer.MAX_VALUE}) {
            CHECK.outOfRange("append(" + c + ")", () -> x.append(c));
        }
        CHECK.due("append behind what was refused", 4, x.append('t'));
        for (int length = 5; length <= 120; length++) {
            CHECK.due("append", length, x.append('0'));
        }
        CHECK.wrongState("append to 120 characters", () -> x.append('0'));
        CHECK.outOfRange("append(256) to 120 characters", () -> x.append(256));
        CHECK.outOfRange("append(-1) to 120 characters", () -> x.append(-1));
        CHECK.due("clearText", 120, x.clearText());
    }

    private static void clearText() {
        LanternBoats x = new LanternBoats();
        CHECK.due("clearText of a new object", 0, x.clearText());
        Coasts.write(x, "Ct01");
        CHECK.due("clearText", 4, x.clearText());
        CHECK.due("clearText again", 0, x.clearText());
        CHECK.due("append", 1, x.append('C'));
        CHECK.due("errorPosition", -1, x.errorPosition());
    }

    private static void error(String text, int due) {
        LanternBoats x = Coasts.withText(text);
        CHECK.due("errorPosition of \"" + text + "\"", due, x.errorPosition());
        CHECK.due("errorPosition again", due, x.errorPosition());
        CHECK.due("the text is kept", text.length(), x.clearText());
    }

    private static void errorPosition() {
        LanternBoats x = Coasts.withText("Ct0");
        CHECK.due("errorPosition", 3, x.errorPosition());
        x.clearText();
        CHECK.due("errorPosition of the text that was emptied", 0, x.errorPosition());
        x.append('t');
        CHECK.due("errorPosition of the text written then", 0, x.errorPosition());
        error("", 0);
        error("C", -1);
        error("c", 0);
        error(" C", 0);
        error("CC", 1);
        error("C ", 1);
        error("Cx", 1);
        error("C" + (char) 236, 1);
        error("C" + (char) 0, 1);
        error("Ct01t60", -1);
        error("Ct01 t60", 4);
        error("Ct01,t60", 4);
        error("CT01", 1);
        error("Ct", 2);
        error("Ct0", 3);
        error("Ct011", 4);
        error("Ct01l", 5);
        // 1 + 39 * 3 + 2 signs: the text ends within its last command.
        error("C" + "t01".repeat(39) + "t0", 120);
        error("C" + "t01".repeat(38) + "m100", -1);
        error("C" + "t01".repeat(37) + "m100m000", -1);
    }

    private static void errorPositionOfNumbers() {
        error("Cl19910001", 10);
        error("Cl2", 2);
        error("Cl19:", 4);
        error("Cl199/", 5);
        error("Cl05009", 5);
        error("Cl05010", 7);
        error("Cl050503", 7);
        error("Cl0505000", 9);
        error("Cl05050000", 9);
        error("Cl0505003", 8);
        error("Cl05050021", 9);
        error("Cl050502200", 10);
        error("Cl050500010", 10);
        error("Cl050500017", 10);
        error("Cl0505000167", 11);
        error("Cl0505000116", -1);
        error("Cl0505000160", -1);
        error("Cl0505000166", -1);
        error("Cl1999922066", -1);
        error("Cl0001000110", -1);
    }

    private static void errorPositionOfEachCommand() {
        error("Cb", 2);
        error("Cb00006", -1);
        error("Cb0:006", 3);
        error("Cb0A006", 3);
        error("Cb00:06", 4);
        error("Cb0000:", 6);
        error("Cb00/06", 4);
        error("Cb2", 2);
        error("Cb19900", -1);
        error("Cb19912", -1);
        error("Cb19913", 6);
        error("Cb1992", 5);
        error("Cb1991", 6);
        error("Ck701", -1);
        error("Ck799", -1);
        error("Ck8", 2);
        error("Ck000", 4);
        error("Ck0", 3);
        error("Cv012", -1);
        error("Cv700", -1);
        error("Cv8", 2);
        error("Cv013", 4);
        error("Cv02", 3);
        error("Cm000", -1);
        error("Cm100", -1);
        error("Cm101", 4);
        error("Cm11", 3);
        error("Cm2", 2);
        error("Cm0999", 5);
        error("Cm099", -1);
        error("Ct00", 3);
        error("Ct61", 3);
        error("Ct7", 2);
        error("Ct60", -1);
        error("C-01", 1);
        error("Ct-1", 2);
    }

    private static void load() {
        LanternBoats x = Coasts.withText("Cl0005000160l1005000121b04008t01k007m020t07v004");
        CHECK.due("load", 0, x.load());
        LanternBoats y = new LanternBoats();
        y.light(0, 50, 0, 1, 6, 0);
        y.light(100, 50, 0, 1, 2, 1);
        y.boat(40, 2);
        y.ticks(1);
        y.talk(0, 7);
        y.set(0, 20);
        y.ticks(7);
        y.steer(0, -2);
        CHECK.holds("load does the commands as the methods do", Coasts.seen(x).equals(Coasts.seen(y)));
        CHECK.due("the place", 56, x.boatOf(0, 0));
        CHECK.due("the speed", -2, x.boatOf(0, 1));
        CHECK.due("the time", 8, x.about(2));
        CHECK.due("the margin", 20, x.setting(0));
        makeRich(x);
        CHECK.due("load again", 0, x.load());
        CHECK.holds("load makes everything as in a new object first", Coasts.seen(x).equals(Coasts.seen(y)));
        CHECK.due("load keeps the text", 47, x.clearText());
        CHECK.due("append", 1, x.append('C'));
        CHECK.due("load of a text without commands", 0, x.load());
        CHECK.holds("as a new object", Coasts.seen(x).equals(Coasts.seen(new LanternBoats())));
    }

    /** Until something else than at first is told of everything. */
    private static void makeRich(LanternBoats x) {
        x.dim(0, 99);
        x.lean(1, 30);
        x.set(1, 1);
        x.set(2, 90);
        x.set(3, 50);
        x.light(60, 99, 1, 2, 1, 0);
        for (int b = 1; b < 8; b++) {
            x.boat(20 * b, b - 3);
        }
        for (int i = 0; i < 12; i++) {
            x.ticks(10);
            for (int b = 0; b < 8; b++) {
                if (x.boatOf(b, 2) != LanternBoats.NONE) {
                    x.talk(b, 99);
                }
            }
        }
        for (int what = 0; what < 10; what++) {
            CHECK.holds("about(" + what + ") is more than 0", x.about(what) > 0);
        }
    }

    private static void leftOut(String text, int due) {
        LanternBoats x = Coasts.withText(text);
        CHECK.due("load of \"" + text + "\"", due, x.load());
    }

    private static void loadLeavesOut() {
        leftOut("Ck001", 1);
        leftOut("Cv006", 1);
        leftOut("Cb05006v006", 0);
        leftOut("Cb05006v106", 1);
        leftOut("Cb05006k001", 1);
        leftOut("Cl0505000112", 1);
        leftOut("Cl0505000111", 0);
        leftOut("Cl0505000110b05006t01k001k101", 1);
        leftOut("Cl0505000156", 1);
        leftOut("C" + "l0505000110".repeat(8), 2);
        leftOut("C" + "b05006".repeat(11), 3);
        LanternBoats x = Coasts.withText("Cl0505000112l0605000110");
        CHECK.due("load", 1, x.load());
        CHECK.due("lighthouses behind one that is left out", 1, x.about(0));
        CHECK.due("its place", 60, x.lightOf(0, 0));
    }

    private static void loadForgets() {
        LanternBoats x = Coasts.withText("Cm050");
        x.boat(5, 1);
        x.save(0);
        x.save(1);
        x.load();
        CHECK.due("boats", 0, x.about(1));
        CHECK.wrongState("undo behind load", x::undo);
        CHECK.wrongState("restore(0) behind load", () -> x.restore(0));
        CHECK.wrongState("restore(1) behind load", () -> x.restore(1));
        x.set(0, 7);
        CHECK.due("undo", 0, x.undo());
        CHECK.due("the margin of the text", 50, x.setting(0));
    }

    private static void loadRefuses() {
        LanternBoats x = Coasts.withText("Ct");
        x.boat(5, 1);
        x.ticks(3);
        x.save(1);
        String before = Coasts.seen(x);
        CHECK.wrongState("load of a text that ends too soon", x::load);
        CHECK.holds("load that is refused changes nothing", Coasts.seen(x).equals(before));
        CHECK.due("restore", 3, x.restore(1));
        x.ticks(1);
        CHECK.wrongState("load", x::load);
        CHECK.due("undo", 0, x.undo());
        CHECK.due("the text is kept", 2, x.clearText());
        CHECK.wrongState("load of the empty text", x::load);
    }
}
