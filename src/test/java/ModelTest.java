/** Long runs of made-up calls: StringRates and the model answer each of them alike. */
public final class ModelTest {
    private static final int RUNS = 1500;
    private static final int CALLS = 512;
    private static final int[] WILD = {-1, Integer.MIN_VALUE, Integer.MAX_VALUE, 0, 1, 2, 3, 4, 7, 8, 9, 10, 11, 12,
        20, 21, 32, 33, 49, 50, 51, 60, 61, 99, 100, 126, 127, 300, 301, 999, 1000};
    private static final String SIGNS = "0123456789x*z;rcd";

    private static final Check CHECK = new Check();
    private static final int[] ANSWERED = new int[26];
    private static final int[] REFUSED = new int[26];

    private final StringRates made = new StringRates();
    private final Model model = new Model();
    private long seed;
    private final int wildness;
    private String pending = "";

    private ModelTest(int run) {
        seed = run * 7919L + 17;
        wildness = run % 3 == 0 ? 20 : 3;
    }

    public static void main(String[] args) {
        for (int run = 0; run < RUNS; run++) {
            CHECK.topic("run " + run);
            ModelTest one = new ModelTest(run);
            for (int call = 0; call < CALLS; call++) {
                one.callOnce(call);
            }
        }
        for (int method = 1; method <= 25; method++) {
            if (ANSWERED[method] == 0) {
                CHECK.tell("method " + method + " was never answered");
            }
            if (REFUSED[method] == 0 && method != 10 && method != 11 && method < 23) {
                CHECK.tell("method " + method + " never threw");
            }
        }
        CHECK.end();
    }

    // The runs are the same each time: the numbers are told by the seed alone.
    private int next(int bound) {
        seed = seed * 6364136223846793005L + 1442695040888963407L;
        return (int) Math.floorMod(seed >> 33, (long) bound);
    }

    private int some(int least, int most) {
        if (next(100) < wildness) {
            return WILD[next(WILD.length)];
        }
        return least + next(most - least + 1);
    }

    private int someParcel() {
        int there = model.count(0);
        return some(0, there == 0 ? 0 : there - 1);
    }

    private int someSide() {
        return next(3) == 0 ? some(1, 12) : some(1, 60);
    }

    private int someWeight() {
        return next(2) == 0 ? some(1, 30) : some(1, 99);
    }

    private int someLength(int parcel) {
        if (parcel >= 0 && parcel < model.count(0) && next(2) == 0) {
            return model.parcelOf(parcel, 8) + next(2) * next(25) - next(2) * next(25);
        }
        return some(1, 999);
    }

    private int someSetting(int setting) {
        switch (setting) {
            case 1: return next(2) == 0 ? some(50, 100) : some(50, 300);
            case 3: return some(0, 50);
            default: return some(0, 20);
        }
    }

    private int nextCode() {
        if (pending.isEmpty()) {
            pending = someText();
        }
        int code = pending.charAt(0);
        pending = pending.substring(1);
        return next(400) == 0 ? some(33, 126) : next(80) == 0 ? SIGNS.charAt(next(SIGNS.length())) : code;
    }

    private String someText() {
        StringBuilder words = new StringBuilder();
        for (int parcels = 1 + next(6); parcels > 0; parcels--) {
            words.append(1 + next(next(2) == 0 ? 9 : 60)).append('x').append(1 + next(9)).append('x');
            words.append(1 + next(next(2) == 0 ? 9 : 60)).append('*').append(1 + next(99));
            words.append('z').append(next(4)).append("rcd".charAt(next(3))).append(parcels > 1 ? ";" : "");
        }
        return words.toString();
    }

    private void callOnce(int call) {
        if (call % 8 == 7) {
            compare(25, 0, 0, 0, 0, 0);
            return;
        }
        int die = next(100);
        if (die < 30) {
            compare(9, nextCode(), 0, 0, 0, 0);
        } else if (die < 33 || pending.isEmpty() && die < 60) {
            compare(next(3) == 0 ? 11 : 12, 0, 0, 0, 0, 0);
            pending = "";
        } else if (die < 48) {
            compare(1, someSide(), someSide(), someSide(), someWeight(), some(0, next(2) == 0 ? 0 : 3));
        } else if (die < 60) {
            int what = some(0, 1);
            compare(2, someParcel(), what, some(0, what == 0 ? 2 : 8), 0, 0);
        } else {
            compareOther(1 + next(25));
        }
    }

    private void compareOther(int method) {
        int parcel = someParcel();
        switch (method) {
            case 3: case 5: case 20: compare(method, parcel, 0, 0, 0, 0); break;
            case 4: compare(method, parcel, someLength(parcel), 0, 0, 0); break;
            case 6: compare(method, some(0, 11), some(0, 99), 0, 0, 0); break;
            case 7: compare(method, some(0, 3), some(1, 9), 0, 0, 0); break;
            case 8: {
                int setting = some(0, 3);
                compare(method, setting, someSetting(setting), 0, 0, 0);
                break;
            }
            case 10: compare(next(4) == 0 ? 10 : 11, 0, 0, 0, 0, 0); break;
            case 13: case 14: case 22: compare(method, some(0, 1), 0, 0, 0, 0); break;
            case 16: compare(method, parcel, some(0, 10), 0, 0, 0); break;
            case 17: compare(method, some(1, 999), some(0, 1), 0, 0, 0); break;
            case 18: compare(method, some(0, 9), 0, 0, 0, 0); break;
            case 19: compare(method, some(0, 3), 0, 0, 0, 0); break;
            case 21: compare(method, parcel, someParcel(), 0, 0, 0); break;
            case 11: case 12: case 15: case 23: case 24: case 25: compare(method, 0, 0, 0, 0, 0); break;
            default: compare(1, someSide(), someSide(), someSide(), someWeight(), some(0, 3)); break;
        }
    }

    private void compare(int method, int v, int w, int x, int y, int z) {
        String call = "method " + method + "(" + v + ", " + w + ", " + x + ", " + y + ", " + z + ")";
        long want = 0;
        String wantThrown = "";
        try {
            want = ofModel(method, v, w, x, y, z);
            ANSWERED[method]++;
        } catch (RuntimeException thrown) {
            wantThrown = thrown.getClass().getName();
            REFUSED[method]++;
        }
        long got = 0;
        String gotThrown = "";
        try {
            got = ofMade(method, v, w, x, y, z);
        } catch (RuntimeException thrown) {
            gotThrown = thrown.getClass().getName();
        }
        if (!gotThrown.equals(wantThrown) || got != want) {
            CHECK.tell(call + " answered " + got + gotThrown + ", due is " + want + wantThrown);
        }
    }

    private long ofMade(int method, int v, int w, int x, int y, int z) {
        switch (method) {
            case 1: return made.bring(v, w, x, y, z);
            case 2: return made.change(v, w, x);
            case 3: return made.send(v);
            case 4: return made.dispute(v, w);
            case 5: return made.takeBack(v);
            case 6: return made.price(v, w);
            case 7: return made.zone(v, w);
            case 8: return made.set(v, w);
            case 9: return made.append(v);
            case 10: return made.clearBuffer();
            case 11: return made.firstError();
            case 12: return made.run();
            case 13: return made.keep(v);
            case 14: return made.goBack(v);
            case 15: return made.undo();
            case 16: return made.parcelOf(v, w);
            case 17: return made.rate(v, w);
            case 18: return made.count(v);
            case 19: return made.setting(v);
            case 20: return made.cheapestWay(v);
            case 21: return made.ifBundled(v, w);
            case 22: return made.cheapest(v);
            case 23: return made.dearest();
            case 24: return Double.doubleToRawLongBits(made.savedShare());
            default: return made.digest();
        }
    }

    private long ofModel(int method, int v, int w, int x, int y, int z) {
        switch (method) {
            case 1: return model.bring(v, w, x, y, z);
            case 2: return model.change(v, w, x);
            case 3: return model.send(v);
            case 4: return model.dispute(v, w);
            case 5: return model.takeBack(v);
            case 6: return model.price(v, w);
            case 7: return model.zone(v, w);
            case 8: return model.set(v, w);
            case 9: return model.append(v);
            case 10: return model.clearBuffer();
            case 11: return model.firstError();
            case 12: return model.run();
            case 13: return model.keep(v);
            case 14: return model.goBack(v);
            case 15: return model.undo();
            case 16: return model.parcelOf(v, w);
            case 17: return model.rate(v, w);
            case 18: return model.count(v);
            case 19: return model.setting(v);
            case 20: return model.cheapestWay(v);
            case 21: return model.ifBundled(v, w);
            case 22: return model.cheapest(v);
            case 23: return model.dearest();
            case 24: return Double.doubleToRawLongBits(model.savedShare());
            default: return model.digest();
        }
    }
}
