/** The buffer and the texts in it: what they may hold, where they go wrong, and what comes of them. */
public final class TextTest {
    private static final Class<IllegalArgumentException> ARGUMENT = IllegalArgumentException.class;
    private static final Class<IllegalStateException> STATE = IllegalStateException.class;
    private static final String ONE = "1x1x1*1z0r";

    private static final Check CHECK = new Check();

    public static void main(String[] args) {
        appendUpToSixty();
        appendEveryCode();
        clearAnEmptyAndAFullBuffer();
        numbersOfEachPlace();
        signsOfEachPlace();
        placesOfTheFirstError();
        errorsAtTheEndsOfTheBuffer();
        errorStaysTheFirst();
        runOfEveryLength();
        runOfEveryChoice();
        runUpToTheFirstRefused();
        runIsOneCall();
        refusedRun();
        CHECK.end();
    }

    private static void due(String call, long got, long want) {
        CHECK.due(call, got, want);
    }

    private static StringRates with(String words) {
        StringRates x = new StringRates();
        Offices.write(x, words);
        return x;
    }

    private static void dueError(String words, int want) {
        due("firstError of " + words, with(words).firstError(), want);
    }

    // ---- the buffer

    private static void appendUpToSixty() {
        CHECK.topic("promise 10");
        StringRates x = new StringRates();
        for (int length = 1; length <= 60; length++) {
            due("append", x.append(length % 2 == 0 ? 33 : 126), length);
        }
        CHECK.refuses("the 61st", STATE, () -> x.append(33));
        CHECK.refuses("the 61st once more", STATE, () -> x.append(126));
        due("none of them came", x.clearBuffer(), 60);
        due("append after clearBuffer", x.append(33), 1);
    }

    private static void appendEveryCode() {
        CHECK.topic("promise 10");
        for (int code = 0; code <= 160; code++) {
            StringRates x = new StringRates();
            int one = code;
            if (code >= 33 && code <= 126) {
                due("append of " + code, x.append(code), 1);
            } else {
                CHECK.refuses("append of " + code, ARGUMENT, () -> x.append(one));
                due("length", x.clearBuffer(), 0);
            }
        }
    }

    private static void clearAnEmptyAndAFullBuffer() {
        CHECK.topic("promise 11");
        StringRates x = new StringRates();
        due("empty", x.clearBuffer(), 0);
        x.append('1');
        due("one", x.clearBuffer(), 1);
        due("empty again", x.clearBuffer(), 0);
        Offices.write(x, (ONE + ";").repeat(5) + "12345");
        due("full", x.clearBuffer(), 60);
        due("empty after full", x.clearBuffer(), 0);
        due("firstError", x.firstError(), 0);
        due("saved", x.count(9), 0);
        CHECK.refuses("undo, as clearBuffer is not undoable", STATE, x::undo);
    }

    // ---- errors

    /** Each number with what may stand before and behind it; the errors are told from its first digit on. */
    private static void numbersOfEachPlace() {
        CHECK.topic("sides 1 to 60, weights 1 to 99, without leading zeros");
        String[] before = {"", "2x", "2x2x", "2x2x2*"};
        String[] behind = {"x", "x", "*", "z"};
        for (int place = 0; place < 4; place++) {
            for (int number = 0; number <= 130; number++) {
                boolean fits = number >= 1 && number <= (place == 3 ? 99 : 60);
                String words = before[place] + number + behind[place];
                dueError(words, fits ? words.length() : before[place].length() + badDigit(number));
            }
            int start = before[place].length();
            dueError(before[place] + "01", start);
            dueError(before[place] + "00", start);
            dueError(before[place] + behind[place], start);
            dueError(before[place] + "+1", start);
            dueError(before[place] + "-1", start);
            dueError(before[place] + "1", start + 1);
        }
    }

    private static int badDigit(int number) {
        if (number == 0) {
            return 0;
        }
        return number <= 99 ? 1 : 2;
    }

    private static void signsOfEachPlace() {
        CHECK.topic("the signs that may stand in each place");
        signs("", "123456789");
        signs("1", "0123456789x");
        signs("5", "0123456789x");
        signs("6", "0x");
        signs("7", "x");
        signs("60", "x");
        signs("1x", "123456789");
        signs("1x6", "0x");
        signs("1x1x", "123456789");
        signs("1x1x1", "*0123456789");
        signs("1x1x6", "*0");
        signs("1x1x7", "*");
        signs("1x1x1*", "123456789");
        signs("1x1x1*1", "0123456789z");
        signs("1x1x1*9", "0123456789z");
        signs("1x1x1*99", "z");
        signs("1x1x1*1z", "0123");
        signs("1x1x1*1z3", "cdr");
        signs("1x1x1*1z3d", ";");
        signs("1x1x1*1z3d;", "123456789");
        signs("1x1x1*1z3d;6", "0x");
    }

    private static void signs(String before, String want) {
        String got = allThatFit(before);
        if (!got.equals(want)) {
            CHECK.tell("behind " + before + " there fit " + got + ", due is " + want);
        }
    }

    private static String allThatFit(String before) {
        StringBuilder fit = new StringBuilder();
        for (char sign = 33; sign <= 126; sign++) {
            if (with(before + sign).firstError() == before.length() + 1) {
                fit.append(sign);
            }
        }
        return fit.toString();
    }

    private static void placesOfTheFirstError() {
        CHECK.topic("promise 12");
        String words = "12x60x7*99z3d;5x";
        for (int end = 0; end <= words.length(); end++) {
            String start = words.substring(0, end);
            dueError(start, end);
            dueError(start + "!", end);
            dueError(start + "!!", end);
            dueError(start + "~1x1", end);
        }
    }

    private static void errorsAtTheEndsOfTheBuffer() {
        CHECK.topic("promise 12");
        dueError("", 0);
        dueError("!", 0);
        String fifty = (ONE + ";").repeat(5);
        dueError(fifty + "1x1x1", 60);
        dueError(fifty + "1x1x;", 59);
        dueError(fifty + "1x1x0", 59);
        dueError("0" + fifty + "1x1x", 0);
        String full = "60x60x60*99z3d;".repeat(4);
        due("its length", full.length(), 60);
        dueError(full, 60);
        dueError(full.substring(0, 59), 59);
        dueError(full.substring(0, 59) + "d", 59);
    }

    private static void errorStaysTheFirst() {
        CHECK.topic("promise 12");
        StringRates x = with("1x1");
        due("none", x.firstError(), 3);
        x.append('y');
        due("there", x.firstError(), 3);
        Offices.write(x, "x1*1z0r");
        due("still there", x.firstError(), 3);
        x.bring(1, 1, 1, 1, 0);
        x.undo();
        due("after undo", x.firstError(), 3);
        CHECK.refuses("run", ARGUMENT, x::run);
        due("after a run that throws", x.firstError(), 3);
        due("firstError leaves the buffer", x.clearBuffer(), 11);
        due("gone", x.firstError(), 0);
        due("firstError is not undoable", x.count(9), 0);
    }

    // ---- run

    private static void runOfEveryLength() {
        CHECK.topic("promise 13");
        String words = ONE + ";12x60x7*99z3d;3x2x1*30z1c";
        int[] whole = {10, 24, 36};
        for (int end = 0; end <= words.length(); end++) {
            StringRates x = with(words.substring(0, end));
            int come = end == whole[0] ? 1 : end == whole[1] ? 2 : end == whole[2] ? 3 : 0;
            if (come > 0) {
                due("run of " + end, x.run(), come);
                due("the buffer is cleared", x.clearBuffer(), 0);
            } else {
                CHECK.refuses("run of " + end, ARGUMENT, x::run);
                due("the buffer stays", x.clearBuffer(), end);
            }
            due("parcels", x.count(0), come);
            due("saved", x.count(9), come > 0 ? 1 : 0);
        }
    }

    private static void runOfEveryChoice() {
        CHECK.topic("promise 13");
        for (int zone = 0; zone <= 3; zone++) {
            for (int way = 0; way <= 2; way++) {
                StringRates x = with("7x60x1*99z" + zone + "rcd".charAt(way));
                due("run", x.run(), 1);
                int[] want = {60, 7, 1, 99, zone, 0, way};
                for (int what = 0; what < want.length; what++) {
                    due("parcelOf(0, " + what + ")", x.parcelOf(0, what), want[what]);
                }
            }
        }
        StringRates x = new StringRates();
        x.bring(1, 1, 1, 1, 0);
        Offices.tie(x, 0, 2, 8);
        x.takeBack(0);
        Offices.write(x, ONE);
        x.run();
        due("no corners, though one before had some", x.parcelOf(0, 5), 0);
    }

    private static void runUpToTheFirstRefused() {
        CHECK.topic("promise 13");
        for (int there = 0; there <= 7; there++) {
            for (int told = 1; told <= 5; told++) {
                StringRates x = Offices.holding(there);
                Offices.write(x, (";" + ONE).repeat(told).substring(1));
                int come = Math.min(told, 7 - there);
                due("run of " + told + " with " + there, x.run(), come);
                due("parcels", x.count(0), there + come);
                due("refused", x.count(7), come < told ? 1 : 0);
                due("saved", x.count(9), Math.min(there + 1, 6));
                due("cleared", x.clearBuffer(), 0);
                x.undo();
                due("parcels after undo", x.count(0), there);
                due("refused after undo", x.count(7), 0);
            }
        }
    }

    private static void runIsOneCall() {
        CHECK.topic("promise 13");
        StringRates x = new StringRates();
        x.set(0, 1);
        Offices.write(x, ONE + ";" + ONE + ";" + ONE + ";" + ONE + ";" + ONE);
        due("run", x.run(), 5);
        due("saved", x.count(9), 2);
        Offices.write(x, ONE + ";" + ONE + ";" + ONE);
        due("run", x.run(), 2);
        due("saved", x.count(9), 3);
        Offices.write(x, ONE);
        due("none comes", x.run(), 0);
        due("saved, though none comes", x.count(9), 4);
        due("refused", x.count(7), 2);
        x.append('7');
        due("undo", x.undo(), 3);
        due("refused", x.count(7), 1);
        due("undo", x.undo(), 2);
        due("refused", x.count(7), 0);
        due("parcels", x.count(0), 5);
        due("undo", x.undo(), 1);
        due("parcels", x.count(0), 0);
        due("undo leaves the buffer", x.clearBuffer(), 1);
    }

    private static void refusedRun() {
        CHECK.topic("promise 13");
        String[] wrong = {"", "1", ONE + ";", ";" + ONE, ONE + ";;" + ONE, ONE + ONE, ONE + "!", "61x1x1*1z0r",
            "1x1x1*100z0r", "1x1x1*1z4r", "1x1x1*1z0R", "0x1x1*1z0r", "1x1x1*1z0", ONE + ";" + "1x1x1*1z0"};
        for (String words : wrong) {
            StringRates x = with(words);
            CHECK.refuses("run of " + words, ARGUMENT, x::run);
            due("the buffer stays", x.clearBuffer(), words.length());
            due("parcels", x.count(0), 0);
            due("saved", x.count(9), 0);
            Offices.write(x, ONE);
            due("run after it", x.run(), 1);
        }
    }
}
