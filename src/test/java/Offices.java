/** Offices in the states that tests begin with, and the digest as it is told by the other calls of the face. */
final class Offices {
    private Offices() {
    }

    static void write(StringRates x, String words) {
        for (char sign : words.toCharArray()) {
            x.append(sign);
        }
    }

    static void tie(StringRates x, int parcel, int way, int corners) {
        x.change(parcel, 0, way);
        x.change(parcel, 1, corners);
    }

    /** Small parcels, of which each one's weight is its first number and 1, together. */
    static void fill(StringRates x, int parcels) {
        for (int weight = 1; weight <= parcels; weight++) {
            x.bring(1, 2, 3, weight, 0);
        }
    }

    static StringRates holding(int parcels) {
        StringRates x = new StringRates();
        fill(x, parcels);
        return x;
    }

    /** Nothing in it, nothing kept, nothing saved. */
    static StringRates empty() {
        return new StringRates();
    }

    /** Something of everything, but nothing is full: three parcels, four saved states, one slot, a broken text. */
    static StringRates busy() {
        StringRates x = new StringRates();
        x.bring(30, 20, 10, 5, 0);
        x.send(0);
        x.undo();
        x.bring(60, 12, 7, 40, 3);
        x.keep(1);
        x.change(1, 0, 1);
        x.bring(9, 9, 9, 30, 0);
        write(x, "1x1x1*1z0r!");
        return x;
    }

    /** All that can be full is full: parcels, saved states, the buffer, and both slots. */
    static StringRates full() {
        StringRates x = new StringRates();
        x.price(4, 99);
        x.keep(0);
        fill(x, 7);
        x.dispute(3, 15);
        x.bring(60, 60, 60, 99, 3);
        tie(x, 6, 2, 8);
        x.set(3, 50);
        x.keep(1);
        x.zone(2, 9);
        write(x, "60x60x60*99z3d;60x60x60*99z3d;60x60x60*99z3d;60x60x60*99z3d;");
        return x;
    }

    /** The digest, put together from what the other calls answer; the buffer and the slots can't be looked at. */
    static long digestOf(StringRates x, int[] prices, int[] factors, String slots, String buffer) {
        long hash = 3691;
        for (int what = 0; what <= 9; what++) {
            hash = 31 * hash + x.count(what);
        }
        for (int setting = 0; setting <= 3; setting++) {
            hash = 31 * hash + x.setting(setting);
        }
        for (int price : prices) {
            hash = 31 * hash + price;
        }
        for (int factor : factors) {
            hash = 31 * hash + factor;
        }
        for (int length : new int[] {120, 999}) {
            hash = 31 * hash + x.rate(length, 0);
            hash = 31 * hash + x.rate(length, 1);
        }
        for (int parcel = 0; parcel < x.count(0); parcel++) {
            hash = withParcel(hash, x, parcel);
        }
        hash = 31 * hash + x.cheapest(0);
        hash = 31 * hash + x.cheapest(1);
        hash = 31 * hash + x.dearest();
        hash = 31 * hash + Double.doubleToLongBits(x.savedShare());
        for (char slot : slots.toCharArray()) {
            hash = 31 * hash + (slot - '0');
        }
        hash = 31 * hash + buffer.length();
        for (char sign : buffer.toCharArray()) {
            hash = 31 * hash + sign;
        }
        return hash;
    }

    /** The digest less the share that the number of saved states has in it; for an empty buffer. */
    static long digestButSaved(StringRates x) {
        int parcels = x.count(0);
        int valuesBehind = 4 + 12 + 4 + 4 + parcels * (11 + parcels) + 4 + 2 + 1;
        long factor = 1;
        for (int value = 0; value < valuesBehind; value++) {
            factor = 31 * factor;
        }
        return x.digest() - x.count(9) * factor;
    }

    private static long withParcel(long before, StringRates x, int parcel) {
        long hash = before;
        for (int what = 0; what <= 10; what++) {
            hash = 31 * hash + x.parcelOf(parcel, what);
        }
        hash = 31 * hash + x.cheapestWay(parcel);
        for (int other = 0; other < x.count(0); other++) {
            if (other != parcel) {
                hash = 31 * hash + x.ifBundled(parcel, other);
            }
        }
        return hash;
    }
}
