import java.util.ArrayDeque;
import java.util.Arrays;

/** What calls save, keep, count and bring back, at the edges that the document names. */
public final class StateTest {
    private static final Class<IllegalStateException> STATE = IllegalStateException.class;
    private static final String ONE = "1x1x1*1z0r";
    private static final int[] PRICES = {5, 10, 15, 20, 25, 30, 35, 40, 45, 50, 55, 60};
    private static final int[] FACTORS = {1, 2, 3, 4};

    private static final Check CHECK = new Check();

    private interface Call {
        long on(StringRates x);
    }

    public static void main(String[] args) {
        newObject();
        undoableCalls();
        undoableWhenRefused();
        undoableWithoutAChange();
        callsThatSaveNothing();
        sixSavedStates();
        aroundTheSix();
        undoBringsBackEverything();
        undoLeavesBufferAndSlots();
        emptySlots();
        snapshotOfEverything();
        snapshotInPlaceOfAnother();
        snapshotStays();
        goBackLeavesSavedStatesAndBuffer();
        takingsOfKeepAndGoBack();
        countsFromEmptyToFull();
        countsSoFar();
        digestWithOverflow();
        digestOfStates();
        digestOfTheBuffer();
        fiveHundredAndTwelveCalls();
        CHECK.end();
    }

    private static void due(String call, long got, long want) {
        CHECK.due(call, got, want);
    }

    /** Seven parcels, the last but one not taken, with three saved states. */
    private static StringRates seven() {
        StringRates x = new StringRates();
        Offices.write(x, (";" + ONE).repeat(5).substring(1));
        x.run();
        x.bring(60, 60, 60, 31, 0);
        x.bring(30, 20, 10, 5, 0);
        return x;
    }

    // ---- promise 1

    private static void newObject() {
        CHECK.topic("promise 1");
        StringRates x = new StringRates();
        int[] settings = {5, 150, 2, 10};
        for (int setting = 0; setting < 4; setting++) {
            due("setting", x.setting(setting), settings[setting]);
        }
        for (int what = 0; what <= 9; what++) {
            due("count", x.count(what), 0);
        }
        due("cheapest(0)", x.cheapest(0), 0);
        due("cheapest(1)", x.cheapest(1), 0);
        due("dearest", x.dearest(), -1);
        CHECK.dueShare("savedShare", x.savedShare(), 0.0);
        for (int band = 0; band < 12; band++) {
            due("price", x.price(band, 0), 5 * band + 5);
        }
        for (int zone = 0; zone < 4; zone++) {
            due("factor", x.zone(zone, 1), zone + 1);
        }
    }

    // ---- undoable

    /** The call saves one state, and undo brings back all that was before it. */
    private static void saves(String name, StringRates x, Call made) {
        int saved = x.count(9);
        long before = x.digest();
        made.on(x);
        due(name + ": saved states", x.count(9), saved + 1);
        due(name + ": undo", x.undo(), saved);
        due(name + ": digest after undo", x.digest(), before);
    }

    private static void undoableCalls() {
        CHECK.topic("undoable");
        saves("bring", Offices.busy(), x -> x.bring(1, 2, 3, 4, 1));
        saves("change, way", Offices.busy(), x -> x.change(0, 0, 2));
        saves("change, corners", Offices.busy(), x -> x.change(0, 1, 8));
        saves("send", Offices.busy(), x -> x.send(0));
        saves("dispute", Offices.busy(), x -> x.dispute(0, 66));
        saves("takeBack", Offices.busy(), x -> x.takeBack(1));
        saves("price", Offices.busy(), x -> x.price(11, 99));
        saves("zone", Offices.busy(), x -> x.zone(3, 9));
        saves("set", Offices.busy(), x -> x.set(0, 20));
        saves("goBack", Offices.busy(), x -> x.goBack(1));
        runSaves("run", new StringRates(), 2);
    }

    /** As saves(), but the buffer, which run() clears, is looked at when it is empty. */
    private static void runSaves(String name, StringRates x, int come) {
        int saved = x.count(9);
        long before = x.digest();
        Offices.write(x, ONE + ";" + ONE);
        due(name, x.run(), come);
        due(name + ": saved states", x.count(9), saved + 1);
        due(name + ": undo", x.undo(), saved);
        due(name + ": digest after undo", x.digest(), before);
    }

    private static void undoableWhenRefused() {
        CHECK.topic("undoable, also if it is refused");
        saves("bring", seven(), x -> x.bring(1, 1, 1, 1, 0));
        saves("send", seven(), x -> x.send(5));
        saves("dispute of one that is not taken", seven(), x -> x.dispute(5, 245));
        saves("dispute that is lost", seven(), x -> x.dispute(6, 76));
        runSaves("run", seven(), 0);
    }

    private static void undoableWithoutAChange() {
        CHECK.topic("undoable, also if it changes nothing");
        saves("change, way", seven(), x -> x.change(0, 0, 0));
        saves("change, corners", seven(), x -> x.change(0, 1, 0));
        saves("price", seven(), x -> x.price(11, 60));
        saves("zone", seven(), x -> x.zone(3, 4));
        saves("set", seven(), x -> x.set(1, 150));
        StringRates kept = seven();
        kept.keep(0);
        saves("goBack", kept, x -> x.goBack(0));
    }

    private static void savesNothing(String name, Call made) {
        StringRates x = Offices.busy();
        made.on(x);
        due(name + ": saved states", x.count(9), 4);
        x.undo();
        due(name + ": what undo takes back is the last bring", x.count(0), 2);
    }

    private static void looksOnly(String name, Call made) {
        savesNothing(name, made);
        StringRates x = Offices.full();
        long before = x.digest();
        long answer = made.on(x);
        due(name + ": digest", x.digest(), before);
        due(name + ": once more", made.on(x), answer);
    }

    private static void callsThatSaveNothing() {
        CHECK.topic("not undoable");
        savesNothing("append", x -> x.append('z'));
        savesNothing("clearBuffer", StringRates::clearBuffer);
        savesNothing("keep", x -> x.keep(0));
        CHECK.topic("looks; nothing is changed");
        looksOnly("firstError", StringRates::firstError);
        for (int what = 0; what <= 10; what++) {
            int one = what;
            looksOnly("parcelOf", x -> x.parcelOf(1, one));
            looksOnly("count", x -> x.count(Math.min(one, 8)));
        }
        looksOnly("rate, upwards", x -> x.rate(500, 0));
        looksOnly("rate, downwards", x -> x.rate(500, 1));
        looksOnly("setting", x -> x.setting(2));
        looksOnly("cheapestWay", x -> x.cheapestWay(1));
        looksOnly("ifBundled", x -> x.ifBundled(0, 1));
        looksOnly("cheapest(0)", x -> x.cheapest(0));
        looksOnly("cheapest(1)", x -> x.cheapest(1));
        looksOnly("dearest", StringRates::dearest);
        looksOnly("savedShare", x -> Double.doubleToLongBits(x.savedShare()));
        looksOnly("digest", StringRates::digest);
    }

    // ---- the saved states

    private static void sixSavedStates() {
        CHECK.topic("at most 6 states");
        for (int made = 0; made <= 14; made++) {
            StringRates x = new StringRates();
            for (int value = 1; value <= made; value++) {
                x.set(1, 150 + value);
            }
            int saved = Math.min(made, 6);
            due("saved after " + made, x.count(9), saved);
            for (int left = saved - 1; left >= 0; left--) {
                due("undo after " + made, x.undo(), left);
                due("setting with " + left + " left", x.setting(1), 150 + made - (saved - left));
            }
            CHECK.refuses("undo with none left", STATE, x::undo);
            due("the oldest were dropped", x.setting(1), 150 + made - saved);
        }
    }

    private static void aroundTheSix() {
        CHECK.topic("saved states, to and fro");
        StringRates x = new StringRates();
        ArrayDeque<Integer> states = new ArrayDeque<>();
        int now = 150;
        for (int turn = 1; turn <= 140; turn++) {
            if (turn % 11 > 6 && !states.isEmpty()) {
                now = states.removeLast();
                due("undo", x.undo(), states.size());
            } else {
                states.addLast(now);
                if (states.size() > 6) {
                    states.removeFirst();
                }
                due("set", x.set(1, 150 + turn), now);
                now = 150 + turn;
            }
            due("setting", x.setting(1), now);
            due("saved", x.count(9), states.size());
        }
    }

    private static void undoBringsBackEverything() {
        CHECK.topic("promise 16");
        Call[] steps = {
            x -> x.bring(60, 50, 40, 99, 3), x -> x.change(0, 0, 2), x -> x.change(0, 1, 8),
            x -> x.bring(1, 2, 3, 4, 1), x -> x.bring(30, 20, 10, 5, 2), x -> x.dispute(2, 500),
            x -> x.dispute(2, 70), x -> x.send(1), x -> x.bring(9, 9, 9, 40, 0), x -> x.send(1),
            x -> x.price(5, 99), x -> x.zone(3, 9), x -> x.set(2, 20), x -> x.takeBack(0), x -> x.send(0)};
        for (int first = 0; first + 6 <= steps.length; first++) {
            StringRates x = new StringRates();
            for (int step = 0; step < first; step++) {
                steps[step].on(x);
            }
            long[] before = new long[6];
            for (int step = 0; step < 6; step++) {
                before[step] = Offices.digestButSaved(x);
                steps[first + step].on(x);
            }
            for (int step = 5; step >= 0; step--) {
                x.undo();
                due("digest after undo of step " + (first + step), Offices.digestButSaved(x), before[step]);
            }
        }
    }

    private static void undoLeavesBufferAndSlots() {
        CHECK.topic("promise 16");
        StringRates x = new StringRates();
        x.bring(1, 1, 1, 1, 0);
        x.keep(0);
        Offices.write(x, "1x!");
        due("undo", x.undo(), 0);
        due("the buffer stays", x.firstError(), 2);
        due("parcels", x.count(0), 0);
        due("the slot stays", x.goBack(0), 0);
        due("parcels of the snapshot", x.count(0), 1);
        CHECK.refuses("the other one stays empty", STATE, () -> x.goBack(1));
        due("undo of goBack", x.undo(), 0);
        due("parcels", x.count(0), 0);
        due("the buffer stays", x.clearBuffer(), 3);
        x.bring(1, 1, 1, 1, 0);
        due("undo leaves a cleared buffer", x.undo() + x.clearBuffer(), 0);
        CHECK.refuses("undo can't be undone", STATE, x::undo);
    }

    // ---- the slots

    private static void emptySlots() {
        CHECK.topic("promises 14 and 15");
        for (int slot = 0; slot <= 1; slot++) {
            int one = slot;
            StringRates x = new StringRates();
            CHECK.refuses("goBack", STATE, () -> x.goBack(one));
            due("keep in the other one", x.keep(1 - one), 0);
            CHECK.refuses("goBack still", STATE, () -> x.goBack(one));
            due("saved", x.count(9), 0);
            due("keep", x.keep(one), 0);
            due("goBack", x.goBack(one), 0);
            due("saved", x.count(9), 1);
        }
    }

    private static void snapshotOfEverything() {
        CHECK.topic("a snapshot is all but the buffer, the slots and the saved states");
        StringRates x = Offices.full();
        x.keep(0);
        // With six saved states before and after, the digests are alike.
        long before = x.digest();
        x.takeBack(5);
        x.change(5, 0, 1);
        x.send(0);
        x.dispute(0, 999);
        x.bring(60, 60, 60, 99, 0);
        x.send(5);
        x.price(0, 77);
        x.zone(0, 7);
        x.set(0, 7);
        x.set(1, 77);
        x.set(2, 7);
        x.set(3, 7);
        due("goBack", x.goBack(0), 5);
        due("digest", x.digest(), before);
        due("price", x.price(0, 5), 5);
        due("undo", x.undo(), 5);
        due("undo of goBack", x.undo(), 4);
        due("setting", x.setting(1), 77);
    }

    private static void snapshotInPlaceOfAnother() {
        CHECK.topic("promise 14");
        StringRates x = Offices.holding(1);
        x.keep(0);
        Offices.fill(x, 2);
        x.keep(1);
        Offices.fill(x, 2);
        x.keep(0);
        x.takeBack(0);
        due("goBack", x.goBack(0), 0);
        due("parcels of slot 0", x.count(0), 5);
        x.goBack(1);
        due("parcels of slot 1", x.count(0), 3);
        x.keep(0);
        x.takeBack(0);
        x.goBack(0);
        due("parcels of slot 0, kept when gone back", x.count(0), 3);
        while (x.count(0) > 0) {
            x.takeBack(0);
        }
        x.keep(0);
        x.goBack(1);
        x.goBack(0);
        due("parcels of slot 0, kept without any", x.count(0), 0);
    }

    private static void snapshotStays() {
        CHECK.topic("promise 15");
        StringRates x = Offices.holding(7);
        x.keep(1);
        for (int turn = 0; turn < 3; turn++) {
            for (int parcel = 0; parcel < 7; parcel++) {
                Offices.tie(x, parcel, 2, 8);
            }
            x.takeBack(3);
            x.bring(60, 60, 60, 99, 3);
            due("goBack", x.goBack(1), 0);
            for (int parcel = 0; parcel < 7; parcel++) {
                due("way", x.parcelOf(parcel, 6), 0);
                due("corners", x.parcelOf(parcel, 5), 0);
                due("weight", x.parcelOf(parcel, 3), parcel + 1);
                due("zone", x.parcelOf(parcel, 4), 0);
                due("a", x.parcelOf(parcel, 0), 3);
            }
        }
    }

    private static void goBackLeavesSavedStatesAndBuffer() {
        CHECK.topic("promise 15");
        StringRates x = new StringRates();
        x.keep(0);
        x.set(0, 1);
        x.set(0, 2);
        Offices.write(x, "12x");
        due("goBack", x.goBack(0), 0);
        due("saved", x.count(9), 3);
        due("setting", x.setting(0), 5);
        due("the buffer stays", x.firstError(), 3);
        due("undo of goBack", x.undo(), 2);
        due("setting", x.setting(0), 2);
        due("undo of set", x.undo(), 1);
        due("setting", x.setting(0), 1);
        due("undo of set", x.undo(), 0);
        due("the buffer stays", x.clearBuffer(), 3);
    }

    private static void takingsOfKeepAndGoBack() {
        CHECK.topic("promises 14 and 15");
        StringRates x = Offices.holding(7);
        due("keep", x.keep(0), 0);
        x.send(0);
        due("keep after send", x.keep(1), 5);
        x.dispute(0, 11);
        x.send(0);
        due("takings", x.count(3), 15);
        due("goBack", x.goBack(1), 5);
        due("takings", x.count(3), 5);
        due("goBack", x.goBack(0), 0);
        due("takings", x.count(3), 0);
        due("forth again", x.goBack(1), 5);
        x.undo();
        due("takings after undo", x.count(3), 0);
        due("keep", x.keep(1), 0);
    }

    // ---- promise 19

    private static void countsFromEmptyToFull() {
        CHECK.topic("promise 19");
        StringRates x = new StringRates();
        x.set(1, 50);
        for (int parcels = 0; parcels <= 7; parcels++) {
            due("parcels", x.count(0), parcels);
            due("taken", x.count(1), parcels);
            due("odd", x.count(2), parcels);
            due("saved", x.count(9), Math.min(parcels + 1, 6));
            x.bring(21, 10, 5, 30, 0);
        }
        due("refused", x.count(7), 1);
        for (int parcel = 0; parcel < 7; parcel++) {
            x.change(parcel, 1, 1);
            due("taken", x.count(1), 6 - parcel);
        }
        x.set(1, 51);
        due("odd", x.count(2), 0);
        StringRates y = Offices.holding(7);
        int[] half = {0, 2, 4};
        for (int parcel : half) {
            y.change(parcel, 1, 1);
        }
        due("taken, of seven", y.count(1), 4);
        due("parcels", y.count(0), 7);
    }

    private static void countsSoFar() {
        CHECK.topic("promise 19");
        StringRates x = new StringRates();
        for (int turn = 1; turn <= 20; turn++) {
            x.bring(2, 2, 1, 30, 0);
            x.bring(2, 2, 1, 30, 0);
            x.bring(2, 2, 1, 31, 0);
            due("send", x.send(0), 15);
            due("dispute", x.dispute(0, 13), 15);
            due("not taken", x.send(0), 1);
            due("no dispute", x.dispute(0, 13), 1);
            x.change(0, 0, 1);
            due("lost", x.dispute(0, 200), 4);
            due("takeBack", x.takeBack(0), 0);
            int[] want = {0, 0, 0, 10 * turn, 2 * turn, turn, turn, 2 * turn, 0, 6};
            for (int what = 0; what <= 9; what++) {
                due("count(" + what + ")", x.count(what), want[what]);
            }
        }
    }

    // ---- promise 26

    private static void dueDigest(StringRates x, int[] prices, int[] factors, String slots, String buffer) {
        due("digest", x.digest(), Offices.digestOf(x, prices, factors, slots, buffer));
    }

    private static void digestWithOverflow() {
        CHECK.topic("promise 26");
        StringRates x = new StringRates();
        due("digest", x.digest(), -1166994636612185317L);
        x.bring(2, 2, 1, 5, 0);
        x.bring(1, 2, 2, 5, 0);
        due("digest of two that are alike", x.digest(), 2971000313639020186L);
        due("once more", x.digest(), 2971000313639020186L);
        x.undo();
        x.undo();
        due("digest after undo", x.digest(), -1166994636612185317L);
    }

    private static void digestOfStates() {
        CHECK.topic("promise 26");
        for (int parcels = 0; parcels <= 7; parcels++) {
            dueDigest(Offices.holding(parcels), PRICES, FACTORS, "00", "");
        }
        dueDigest(seven(), PRICES, FACTORS, "00", "");
        dueDigest(Offices.busy(), PRICES, FACTORS, "01", "1x1x1*1z0r!");
        int[] prices = PRICES.clone();
        prices[4] = 99;
        dueDigest(Offices.full(), prices, new int[] {1, 2, 9, 4}, "11", "60x60x60*99z3d;".repeat(4));
        for (int slot = 0; slot <= 1; slot++) {
            StringRates x = new StringRates();
            x.keep(slot);
            dueDigest(x, PRICES, FACTORS, slot == 0 ? "10" : "01", "");
        }
        for (int band = 0; band < 12; band++) {
            StringRates x = Offices.holding(2);
            x.price(band, 0);
            int[] cheaper = PRICES.clone();
            cheaper[band] = 0;
            dueDigest(x, cheaper, FACTORS, "00", "");
        }
        for (int zone = 0; zone < 4; zone++) {
            StringRates x = Offices.holding(2);
            x.zone(zone, 7);
            int[] factors = FACTORS.clone();
            factors[zone] = 7;
            dueDigest(x, PRICES, factors, "00", "");
        }
    }

    private static void digestOfTheBuffer() {
        CHECK.topic("promise 26");
        char[] signs = new char[60];
        for (int length = 0; length <= 60; length++) {
            String buffer = new String(Arrays.copyOf(signs, length));
            StringRates x = new StringRates();
            Offices.write(x, buffer);
            dueDigest(x, PRICES, FACTORS, "00", buffer);
            x.clearBuffer();
            dueDigest(x, PRICES, FACTORS, "00", "");
            if (length < 60) {
                signs[length] = (char) (33 + length * 93 / 59);
            }
        }
    }

    private static void fiveHundredAndTwelveCalls() {
        CHECK.topic("512 calls");
        StringRates x = new StringRates();
        for (int call = 1; call <= 504; call++) {
            due("set", x.set(1, 150 + call % 2), call == 1 ? 150 : 151 - call % 2);
        }
        for (int left = 5; left >= 0; left--) {
            due("undo", x.undo(), left);
        }
        due("setting", x.setting(1), 150);
        due("the last call", x.digest(), -1166994636612185317L);
    }
}
