/** Calls that throw: they change nothing, whatever may be looked at later; and which exception goes first. */
public final class RefusalTest {
    private static final Class<IllegalArgumentException> ARGUMENT = IllegalArgumentException.class;
    private static final Class<IndexOutOfBoundsException> INDEX = IndexOutOfBoundsException.class;
    private static final Class<IllegalStateException> STATE = IllegalStateException.class;

    private static final Check CHECK = new Check();

    private interface Maker {
        StringRates make();
    }

    private interface Call {
        long on(StringRates x);
    }

    public static void main(String[] args) {
        inEveryState("empty", Offices::empty);
        inEveryState("busy", Offices::busy);
        inEveryState("full", Offices::full);
        onlyEmpty();
        onlyBusy();
        onlyFull();
        firstNamedGoesFirst();
        CHECK.end();
    }

    /** Refuses the call on one of two like objects, and then tells by all that may follow that they are still alike. */
    private static void refused(String call, Class<? extends RuntimeException> due, Maker maker, Call made) {
        StringRates x = maker.make();
        StringRates twin = maker.make();
        CHECK.refuses(call, due, () -> made.on(x));
        alike(call + ", then digest", x, twin, StringRates::digest);
        alike(call + ", then firstError", x, twin, StringRates::firstError);
        for (int slot = 0; slot <= 1; slot++) {
            int one = slot;
            alike(call + ", then goBack", x, twin, office -> office.goBack(one));
            alike(call + ", then digest after goBack", x, twin, StringRates::digest);
            alike(call + ", then undo after goBack", x, twin, StringRates::undo);
        }
        for (int undone = 0; undone < 7; undone++) {
            alike(call + ", then undo", x, twin, StringRates::undo);
            alike(call + ", then digest after undo", x, twin, StringRates::digest);
        }
        alike(call + ", then clearBuffer", x, twin, StringRates::clearBuffer);
    }

    private static void alike(String call, StringRates x, StringRates twin, Call made) {
        CHECK.due(call, answer(x, made), answer(twin, made));
    }

    private static long answer(StringRates x, Call made) {
        try {
            return made.on(x);
        } catch (RuntimeException thrown) {
            return -1_000_000L;
        }
    }

    private static void inEveryState(String state, Maker maker) {
        CHECK.topic("refused by a " + state + " office");
        refused("bring, side", ARGUMENT, maker, x -> x.bring(61, 1, 1, 1, 0));
        refused("bring, other", ARGUMENT, maker, x -> x.bring(1, 0, 1, 1, 0));
        refused("bring, third", ARGUMENT, maker, x -> x.bring(1, 1, 61, 1, 0));
        refused("bring, weight", ARGUMENT, maker, x -> x.bring(1, 1, 1, 100, 0));
        refused("bring, zone", ARGUMENT, maker, x -> x.bring(1, 1, 1, 1, 4));
        refused("change", INDEX, maker, x -> x.change(7, 0, 1));
        refused("send", INDEX, maker, x -> x.send(7));
        refused("dispute", INDEX, maker, x -> x.dispute(-1, 100));
        refused("takeBack", INDEX, maker, x -> x.takeBack(7));
        refused("price, band", INDEX, maker, x -> x.price(12, 5));
        refused("price, price", ARGUMENT, maker, x -> x.price(11, 100));
        refused("zone, zone", INDEX, maker, x -> x.zone(-1, 5));
        refused("zone, factor", ARGUMENT, maker, x -> x.zone(3, 0));
        refused("set, setting", INDEX, maker, x -> x.set(4, 10));
        refused("set, value", ARGUMENT, maker, x -> x.set(1, 301));
        refused("append, too small", ARGUMENT, maker, x -> x.append(32));
        refused("append, too large", ARGUMENT, maker, x -> x.append(127));
        refused("run", ARGUMENT, maker, StringRates::run);
        refused("keep", ARGUMENT, maker, x -> x.keep(2));
        refused("goBack", ARGUMENT, maker, x -> x.goBack(-1));
        refused("parcelOf", INDEX, maker, x -> x.parcelOf(7, 0));
        refused("rate, length", ARGUMENT, maker, x -> x.rate(0, 0));
        refused("rate, what", ARGUMENT, maker, x -> x.rate(1, 2));
        refused("count", ARGUMENT, maker, x -> x.count(10));
        refused("setting", INDEX, maker, x -> x.setting(4));
        refused("cheapestWay", INDEX, maker, x -> x.cheapestWay(7));
        refused("ifBundled", INDEX, maker, x -> x.ifBundled(0, 7));
        refused("cheapest", ARGUMENT, maker, x -> x.cheapest(2));
    }

    private static void onlyEmpty() {
        CHECK.topic("refused by an empty office");
        refused("goBack, slot 0", STATE, Offices::empty, x -> x.goBack(0));
        refused("goBack, slot 1", STATE, Offices::empty, x -> x.goBack(1));
        refused("undo", STATE, Offices::empty, StringRates::undo);
        refused("send", INDEX, Offices::empty, x -> x.send(0));
    }

    private static void onlyBusy() {
        CHECK.topic("refused by a busy office");
        refused("change, what", ARGUMENT, Offices::busy, x -> x.change(0, 2, 1));
        refused("change, way", ARGUMENT, Offices::busy, x -> x.change(0, 0, 3));
        refused("change, corners", ARGUMENT, Offices::busy, x -> x.change(0, 1, 9));
        refused("dispute, too short", ARGUMENT, Offices::busy, x -> x.dispute(0, 0));
        refused("dispute, too long", ARGUMENT, Offices::busy, x -> x.dispute(0, 1000));
        refused("dispute of one that is not taken", ARGUMENT, Offices::busy, x -> x.dispute(1, 1000));
        refused("parcelOf, what", ARGUMENT, Offices::busy, x -> x.parcelOf(2, 11));
        refused("ifBundled, the same", ARGUMENT, Offices::busy, x -> x.ifBundled(2, 2));
        refused("goBack to the empty slot", STATE, Offices::busy, x -> x.goBack(0));
    }

    private static void onlyFull() {
        CHECK.topic("refused by a full office");
        CHECK.due("parcels", Offices.full().count(0), 7);
        CHECK.due("saved states", Offices.full().count(9), 6);
        refused("append to a full buffer", STATE, Offices::full, x -> x.append('x'));
        refused("bring, out of range as well", ARGUMENT, Offices::full, x -> x.bring(1, 1, 1, 0, 0));
    }

    private static void firstNamedGoesFirst() {
        CHECK.topic("several exceptions apply");
        refused("change, parcel and what", INDEX, Offices::busy, x -> x.change(3, 2, 0));
        refused("change, parcel and value", INDEX, Offices::busy, x -> x.change(3, 0, 3));
        refused("change, all", INDEX, Offices::busy, x -> x.change(-1, -1, -1));
        refused("dispute, both", INDEX, Offices::busy, x -> x.dispute(3, 0));
        refused("dispute, both beyond", INDEX, Offices::empty, x -> x.dispute(0, 1000));
        refused("price, both", INDEX, Offices::busy, x -> x.price(12, 100));
        refused("price, both below", INDEX, Offices::busy, x -> x.price(-1, -1));
        refused("zone, both", INDEX, Offices::busy, x -> x.zone(4, 10));
        refused("zone, both below", INDEX, Offices::busy, x -> x.zone(-1, 0));
        refused("set, both", INDEX, Offices::busy, x -> x.set(4, 301));
        refused("set, both below", INDEX, Offices::busy, x -> x.set(-1, -1));
        refused("append, code and full, too small", ARGUMENT, Offices::full, x -> x.append(32));
        refused("append, code and full, too large", ARGUMENT, Offices::full, x -> x.append(127));
        refused("goBack, slot and no snapshot", ARGUMENT, Offices::empty, x -> x.goBack(2));
        refused("goBack, slot and no snapshot, below", ARGUMENT, Offices::empty, x -> x.goBack(-1));
        refused("parcelOf, both", INDEX, Offices::busy, x -> x.parcelOf(3, 11));
        refused("parcelOf, both below", INDEX, Offices::empty, x -> x.parcelOf(-1, -1));
        refused("ifBundled, the same, which is none", INDEX, Offices::busy, x -> x.ifBundled(3, 3));
        refused("ifBundled, the same, below", INDEX, Offices::busy, x -> x.ifBundled(-1, -1));
    }
}
