import java.util.ArrayList;
import java.util.List;

/** Promises 2 to 5 at their edges: every sign at every place of every command, texts that are empty or full. */
public final class TextEdgeTest {
    private static final Check CHECK = new Check("TextEdgeTest");
    private static final int[] PLACE = {3, 0, 199};
    private static final int[] BOAT = {1, 0, 7};
    private static final int[] SPEED = {2, 0, 12};

    public static void main(String[] args) {
        everyCharacterIsAppended();
        everyLengthIsAnswered();
        fullTextIsEmptiedAndFilledAgain();
        firstSign();
        everyLetter();
        command("l", PLACE, new int[] {2, 10, 99}, new int[] {1, 0, 2}, new int[] {2, 1, 20}, new int[] {1, 1, 6},
                new int[] {1, 0, 6});
        command("b", PLACE, SPEED);
        command("k", BOAT, new int[] {2, 1, 99});
        command("v", BOAT, SPEED);
        command("m", new int[] {3, 0, 100});
        command("t", new int[] {2, 1, 60});
        fullTexts();
        loadOfTheSmallestAndTheLargest();
        loadOfAllThatThereCanBe();
        loadOfAFullText();
        commandsLeftOutInTheirOrder();
        CHECK.end();
    }

    private static int errorOf(String text) {
        return Coasts.withText(text).errorPosition();
    }

    // ---- append, clearText

    private static void everyCharacterIsAppended() {
        for (int from = 0; from < 256; from += 64) {
            LanternBoats x = new LanternBoats();
            for (int c = from; c < from + 64; c++) {
                CHECK.due("append(" + c + ")", c - from + 1, x.append(c));
            }
            CHECK.due("errorPosition", 0, x.errorPosition());
            CHECK.due("clearText", 64, x.clearText());
        }
    }

    private static void everyLengthIsAnswered() {
        LanternBoats x = new LanternBoats();
        for (int length = 1; length <= 120; length++) {
            CHECK.due("append as character " + length, length, x.append(length % 2 == 0 ? 0 : 255));
        }
        CHECK.wrongState("append as character 121", () -> x.append(0));
        CHECK.outOfRange("append(-1) as character 121", () -> x.append(-1));
        CHECK.outOfRange("append(256) as character 121", () -> x.append(256));
        CHECK.due("clearText", 120, x.clearText());
        CHECK.due("clearText of the empty text", 0, x.clearText());
    }

    private static void fullTextIsEmptiedAndFilledAgain() {
        LanternBoats x = Coasts.withText("x".repeat(119));
        CHECK.due("append as the last one", 120, x.append('x'));
        CHECK.due("clearText", 120, x.clearText());
        CHECK.due("errorPosition of the empty text", 0, x.errorPosition());
        Coasts.write(x, "C" + "t01".repeat(39));
        CHECK.due("errorPosition", -1, x.errorPosition());
        CHECK.due("append", 119, x.append('t'));
        CHECK.due("append", 120, x.append('0'));
        CHECK.due("errorPosition of a full text that ends too soon", 120, x.errorPosition());
        CHECK.wrongState("load of it", x::load);
    }

    // ---- errorPosition

    private static void firstSign() {
        CHECK.due("errorPosition of the empty text", 0, errorOf(""));
        for (char c = 0; c < 256; c++) {
            CHECK.due("errorPosition of the sign " + (int) c, c == 'C' ? -1 : 0, errorOf("" + c));
            CHECK.due("errorPosition of the sign " + (int) c + " ahead of C", c == 'C' ? 1 : 0, errorOf(c + "C"));
        }
    }

    private static void everyLetter() {
        for (char c = 0; c < 256; c++) {
            boolean letter = "lbkvmt".indexOf(c) >= 0;
            CHECK.due("errorPosition of C and the sign " + (int) c, letter ? 2 : 1, errorOf("C" + c));
            CHECK.due("errorPosition of a command and the sign " + (int) c, letter ? 5 : 4, errorOf("Ct01" + c));
        }
    }

    /** Every digit that may begin or go on, and every other sign in its place, behind the least and the most. */
    private static void command(String letter, int[]... numbers) {
        List<String> before = new ArrayList<>();
        before.add("C" + letter);
        for (int i = 0; i < numbers.length; i++) {
            boolean last = i == numbers.length - 1;
            List<String> next = new ArrayList<>();
            for (String text : before) {
                number(text, numbers[i], last);
                next.add(text + written(numbers[i], numbers[i][1]));
                next.add(text + written(numbers[i], numbers[i][2]));
            }
            before = next;
        }
        for (String text : before) {
            CHECK.due("errorPosition of \"" + text + "\"", -1, errorOf(text));
            CHECK.due("errorPosition of \"" + text + "0\"", text.length(), errorOf(text + "0"));
            CHECK.due("errorPosition of \"" + text + "C\"", text.length(), errorOf(text + "C"));
            CHECK.due("errorPosition of it with another command", -1, errorOf(text + "m100"));
        }
    }

    private static String written(int[] number, int v) {
        StringBuilder digits = new StringBuilder().append(v);
        while (digits.length() < number[0]) {
            digits.insert(0, '0');
        }
        return digits.toString();
    }

    private static void number(String text, int[] number, boolean last) {
        List<String> all = new ArrayList<>();
        for (int v = number[1]; v <= number[2]; v++) {
            all.add(written(number, v));
        }
        List<String> begun = new ArrayList<>();
        begun.add("");
        while (!begun.isEmpty()) {
            String digits = begun.remove(begun.size() - 1);
            CHECK.due("errorPosition of \"" + text + digits + "\"", text.length() + digits.length(),
                    errorOf(text + digits));
            for (char c = 0; c < 256; c++) {
                String with = digits + c;
                boolean allowed = all.stream().anyMatch(v -> v.startsWith(with));
                boolean ends = allowed && with.length() == number[0];
                int due = text.length() + (allowed ? with.length() : digits.length());
                CHECK.due("errorPosition of \"" + text + digits + "\" and the sign " + (int) c,
                        ends && last ? -1 : due, errorOf(text + with));
                if (allowed && !ends) {
                    begun.add(with);
                }
            }
        }
    }

    private static void fullTexts() {
        String most = "C" + "t01".repeat(37) + "m100m000";
        CHECK.due("signs", 120, most.length());
        CHECK.due("errorPosition of a full coast", -1, errorOf(most));
        CHECK.due("errorPosition with the last digit wrong", 119, errorOf(most.substring(0, 119) + "x"));
        CHECK.due("errorPosition with the last digit left out", 119, errorOf(most.substring(0, 119)));
        CHECK.due("errorPosition of a full text that begins wrong", 0, errorOf("x" + most.substring(1)));
        CHECK.due("errorPosition of a letter as the last sign", 120,
                errorOf("C" + "t01".repeat(38) + "m000l"));
        CHECK.due("errorPosition of another sign there", 119, errorOf("C" + "t01".repeat(38) + "m000?"));
    }

    // ---- load

    private static LanternBoats loaded(String text, int leftOut) {
        LanternBoats x = Coasts.withText(text);
        CHECK.due("load of \"" + text + "\"", leftOut, x.load());
        return x;
    }

    private static void light(LanternBoats x, int l, int... due) {
        for (int what = 0; what < due.length; what++) {
            CHECK.due("lightOf(" + l + ", " + what + ")", due[what], x.lightOf(l, what));
        }
    }

    private static void loadOfTheSmallestAndTheLargest() {
        LanternBoats x = loaded("Cl0001000110l1999922066b00000b19912v012v100", 0);
        light(x, 0, 0, 10, 0, 1, 1, 0, 0, 0, 0);
        light(x, 1, 199, 99, 2, 20, 6, 6, 0, 0, 0);
        CHECK.due("the place of boat 0", 0, x.boatOf(0, 0));
        CHECK.due("the place of boat 1", 199, x.boatOf(1, 0));
        CHECK.due("the speed 12", 6, x.boatOf(0, 1));
        CHECK.due("the speed 00", -6, x.boatOf(1, 1));
        LanternBoats y = loaded("Cb00000b19912m000", 0);
        CHECK.due("the speed 00 of a new boat", -6, y.boatOf(0, 1));
        CHECK.due("the speed 12 of a new boat", 6, y.boatOf(1, 1));
        CHECK.due("the margin 000", 0, y.setting(0));
        LanternBoats z = loaded("Cl1009900160" + "b10006".repeat(7) + "t01k001k199m100", 0);
        CHECK.due("a talk of 01", 1, z.boatOf(0, 3));
        CHECK.due("a talk of 99", 99, z.boatOf(1, 3));
        CHECK.due("the margin 100", 100, z.setting(0));
        CHECK.due("t01", 1, z.about(2));
        CHECK.due("t60", 60, loaded("Ct60", 0).about(2));
        CHECK.due("t60t60", 120, loaded("Ct60t60", 0).about(2));
    }

    private static void loadOfAllThatThereCanBe() {
        LanternBoats x = loaded("C" + "l1005000110".repeat(6) + "b10006".repeat(8), 0);
        CHECK.due("six lighthouses", 6, x.about(0));
        CHECK.due("eight boats", 8, x.about(1));
        LanternBoats y = loaded("C" + "l1005000110".repeat(6) + "l0009900110", 1);
        CHECK.due("a seventh is left out", 6, y.about(0));
        CHECK.due("the sixth stays", 100, y.lightOf(5, 0));
        LanternBoats z = loaded("C" + "b10006".repeat(8) + "b00000v706v700", 1);
        CHECK.due("a ninth is left out", 8, z.about(1));
        CHECK.due("the eighth stays", 100, z.boatOf(7, 0));
        CHECK.due("and is steered", -6, z.boatOf(7, 1));
    }

    private static void loadOfAFullText() {
        LanternBoats x = loaded("C" + "t60".repeat(37) + "m100m000", 0);
        CHECK.due("the time", 37 * 60, x.about(2));
        CHECK.due("the last command", 0, x.setting(0));
        CHECK.wrongState("undo behind load", x::undo);
        CHECK.wrongState("append behind load", () -> x.append('t'));
        CHECK.due("load once more", 0, x.load());
        CHECK.due("the time begins anew", 37 * 60, x.about(2));
        CHECK.due("the text is kept", 120, x.clearText());
        CHECK.wrongState("load of the empty text", x::load);
        CHECK.due("what was loaded stays", 37 * 60, x.about(2));
        LanternBoats y = loaded("C" + "v006".repeat(29) + "t01", 29);
        CHECK.due("what is not left out is done", 1, y.about(2));
    }

    /** Each command that the methods would refuse is left out alone, those behind it are done. */
    private static void commandsLeftOutInTheirOrder() {
        for (int most = 1; most <= 6; most++) {
            for (int reserved = 0; reserved <= 6; reserved++) {
                LanternBoats x = loaded("Cl050500" + "01" + most + reserved + "t02", reserved <= most ? 0 : 1);
                CHECK.due("lighthouses", reserved <= most ? 1 : 0, x.about(0));
                CHECK.due("the time", 2, x.about(2));
            }
        }
        for (int b = 0; b <= 7; b++) {
            loaded("C" + "b05006".repeat(7) + "v" + b + "06", b < 7 ? 0 : 1);
        }
        LanternBoats y = loaded("Ck001l0505000110k001b05006k001t01k002k102v100v000", 5);
        CHECK.due("the talk of the boat that is served", 2, y.boatOf(0, 3));
        CHECK.due("its speed", -6, y.boatOf(0, 1));
    }
}
