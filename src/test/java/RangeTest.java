/** Each argument of each call: its least and greatest values are taken, those just beyond and the ends of int refused. */
public final class RangeTest {
    private static final Class<IllegalArgumentException> ARGUMENT = IllegalArgumentException.class;
    private static final Class<IndexOutOfBoundsException> INDEX = IndexOutOfBoundsException.class;

    private static final Check CHECK = new Check();

    private interface Call {
        long with(StringRates x, int value);
    }

    public static void main(String[] args) {
        bring();
        change();
        dispute();
        rates();
        settings();
        texts();
        looks();
        parcels();
        CHECK.end();
    }

    /** Three parcels, of which the first one bears any change, and a snapshot in either slot. */
    private static StringRates office() {
        StringRates x = Offices.holding(3);
        x.keep(0);
        x.keep(1);
        return x;
    }

    private static void range(String call, Class<? extends RuntimeException> due, int least, int greatest, Call made) {
        for (int value : new int[] {least, greatest}) {
            taken(call + " with " + value, office(), made, value);
        }
        for (int value : new int[] {least - 1, greatest + 1, Integer.MIN_VALUE, Integer.MAX_VALUE}) {
            StringRates x = office();
            CHECK.refuses(call + " with " + value, due, () -> made.with(x, value));
        }
    }

    private static void taken(String call, StringRates x, Call made, int value) {
        try {
            made.with(x, value);
        } catch (RuntimeException thrown) {
            CHECK.tell(call + " threw " + thrown);
        }
    }

    private static void bring() {
        CHECK.topic("promise 2");
        range("side", ARGUMENT, 1, 60, (x, value) -> x.bring(value, 5, 5, 5, 0));
        range("other", ARGUMENT, 1, 60, (x, value) -> x.bring(5, value, 5, 5, 0));
        range("third", ARGUMENT, 1, 60, (x, value) -> x.bring(5, 5, value, 5, 0));
        range("weight", ARGUMENT, 1, 99, (x, value) -> x.bring(5, 5, 5, value, 0));
        range("zone", ARGUMENT, 0, 3, (x, value) -> x.bring(5, 5, 5, 5, value));
    }

    private static void change() {
        CHECK.topic("promise 3");
        range("what", ARGUMENT, 0, 1, (x, value) -> x.change(0, value, 2));
        range("way", ARGUMENT, 0, 2, (x, value) -> x.change(0, 0, value));
        range("corners", ARGUMENT, 0, 8, (x, value) -> x.change(0, 1, value));
    }

    private static void dispute() {
        CHECK.topic("promise 5");
        range("length", ARGUMENT, 1, 999, (x, value) -> x.dispute(0, value));
    }

    private static void rates() {
        CHECK.topic("promises 7 and 8");
        range("band", INDEX, 0, 11, (x, value) -> x.price(value, 5));
        range("zone", INDEX, 0, 3, (x, value) -> x.zone(value, 5));
        for (int band = 0; band < 12; band++) {
            int one = band;
            range("price of the band " + band, ARGUMENT, 0, 99, (x, value) -> x.price(one, value));
        }
        for (int zone = 0; zone < 4; zone++) {
            int one = zone;
            range("factor of the zone " + zone, ARGUMENT, 1, 9, (x, value) -> x.zone(one, value));
        }
    }

    private static void settings() {
        CHECK.topic("promises 9 and 20");
        range("setting to set", INDEX, 0, 3, (x, value) -> x.set(value, value == 1 ? 50 : 0));
        range("what a knot takes", ARGUMENT, 0, 20, (x, value) -> x.set(0, value));
        range("the greatest girth", ARGUMENT, 50, 300, (x, value) -> x.set(1, value));
        range("what a corner costs", ARGUMENT, 0, 20, (x, value) -> x.set(2, value));
        range("the greatest difference", ARGUMENT, 0, 50, (x, value) -> x.set(3, value));
        range("setting to look at", INDEX, 0, 3, (x, value) -> x.setting(value));
    }

    private static void texts() {
        CHECK.topic("promises 10, 14 and 15");
        range("code", ARGUMENT, 33, 126, (x, value) -> x.append(value));
        range("slot to keep in", ARGUMENT, 0, 1, (x, value) -> x.keep(value));
        range("slot to go back to", ARGUMENT, 0, 1, (x, value) -> x.goBack(value));
    }

    private static void looks() {
        CHECK.topic("promises 17, 18, 19 and 23");
        range("what of a parcel", ARGUMENT, 0, 10, (x, value) -> x.parcelOf(0, value));
        range("length, upwards", ARGUMENT, 1, 999, (x, value) -> x.rate(value, 0));
        range("length, downwards", ARGUMENT, 1, 999, (x, value) -> x.rate(value, 1));
        range("what of a rate", ARGUMENT, 0, 1, (x, value) -> x.rate(1, value));
        range("what of a count", ARGUMENT, 0, 9, (x, value) -> x.count(value));
        range("what of cheapest", ARGUMENT, 0, 1, (x, value) -> x.cheapest(value));
    }

    private static void parcels() {
        for (int there = 0; there <= 7; there++) {
            CHECK.topic("the parcel's number with " + there + " parcels");
            parcel(there, 1, "change", (x, parcel) -> x.change(parcel, 0, 0));
            parcel(there, 1, "send", (x, parcel) -> x.send(parcel));
            parcel(there, 1, "dispute", (x, parcel) -> x.dispute(parcel, 11));
            parcel(there, 1, "takeBack", (x, parcel) -> x.takeBack(parcel));
            parcel(there, 1, "parcelOf", (x, parcel) -> x.parcelOf(parcel, 0));
            parcel(there, 1, "cheapestWay", (x, parcel) -> x.cheapestWay(parcel));
            parcel(there, 2, "ifBundled, parcel", (x, parcel) -> x.ifBundled(parcel, parcel == 0 ? 1 : 0));
            parcel(there, 2, "ifBundled, other", (x, other) -> x.ifBundled(other == 0 ? 1 : 0, other));
        }
    }

    private static void parcel(int there, int needed, String call, Call made) {
        if (there >= needed) {
            taken(call + " with 0", Offices.holding(there), made, 0);
            taken(call + " with " + (there - 1), Offices.holding(there), made, there - 1);
        }
        for (int value : new int[] {-1, there, there + 1, 7, Integer.MIN_VALUE, Integer.MAX_VALUE}) {
            StringRates x = Offices.holding(there);
            CHECK.refuses(call + " with " + value, INDEX, () -> made.with(x, value));
        }
    }
}
