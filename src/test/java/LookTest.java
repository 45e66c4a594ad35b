/** cheapestWay and dearest, at the edges that the document names, with answers told by hand. */
public final class LookTest {
    private static final Check CHECK = new Check();

    public static void main(String[] args) {
        wayByWeight();
        wayByCorners();
        wayByGirth();
        wayOfTheSamePostage();
        noneOrOneDearest();
        dearestInEachPlace();
        dearestOfSeveral();
        dearestOfThoseTaken();
        numbersOfOneNotTaken();
        CHECK.end();
    }

    private static void due(String call, long got, long want) {
        CHECK.due(call, got, want);
    }

    /** However it is tied, the answer is the same, and it stays so tied. */
    private static void dueWay(StringRates x, int want) {
        for (int way = 0; way <= 2; way++) {
            x.change(0, 0, way);
            due("cheapestWay", x.cheapestWay(0), want);
            due("the way that it has", x.parcelOf(0, 6), way);
        }
    }

    private static StringRates oneOf(int side, int weight, int corners) {
        StringRates x = new StringRates();
        x.bring(side, side, side, weight, 0);
        x.change(0, 1, corners);
        return x;
    }

    private static void wayByWeight() {
        CHECK.topic("promise 21");
        dueWay(oneOf(10, 1, 0), 0);
        dueWay(oneOf(10, 30, 0), 0);
        dueWay(oneOf(10, 31, 0), 1);
        dueWay(oneOf(10, 60, 0), 1);
        dueWay(oneOf(10, 61, 0), 2);
        dueWay(oneOf(10, 99, 0), 2);
    }

    private static void wayByCorners() {
        CHECK.topic("promise 21");
        dueWay(oneOf(10, 1, 1), 1);
        dueWay(oneOf(10, 30, 8), 1);
        dueWay(oneOf(10, 60, 8), 1);
        dueWay(oneOf(10, 61, 8), 2);
    }

    private static void wayByGirth() {
        CHECK.topic("promise 21");
        StringRates x = oneOf(60, 5, 0);
        x.set(1, 149);
        dueWay(x, -1);
        x.set(1, 150);
        dueWay(x, 0);
        StringRates y = oneOf(21, 99, 8);
        y.set(1, 52);
        dueWay(y, -1);
        y.set(1, 53);
        dueWay(y, 2);
    }

    private static void wayOfTheSamePostage() {
        CHECK.topic("of several the least");
        // 4, 8 and 12 with knots of 0: all of the band 0.
        StringRates x = oneOf(1, 30, 0);
        x.set(0, 0);
        dueWay(x, 0);
        x.change(0, 1, 1);
        dueWay(x, 1);
        x.change(0, 1, 0);
        x.price(0, 0);
        dueWay(x, 0);
        StringRates y = oneOf(60, 60, 0);
        y.price(0, 99);
        dueWay(y, 1);
    }

    // ---- promise 24

    private static void noneOrOneDearest() {
        CHECK.topic("promise 24");
        StringRates x = new StringRates();
        due("no parcels", x.dearest(), -1);
        x.bring(1, 1, 1, 31, 0);
        due("none taken", x.dearest(), -1);
        x.change(0, 0, 1);
        due("one", x.dearest(), 0);
        x.price(0, 0);
        due("one, for nothing", x.dearest(), 0);
        x.takeBack(0);
        due("none is left", x.dearest(), -1);
    }

    private static void dearestInEachPlace() {
        CHECK.topic("promise 24");
        for (int place = 0; place < 7; place++) {
            StringRates x = new StringRates();
            for (int parcel = 0; parcel < 7; parcel++) {
                x.bring(1, 1, 1, 1, parcel == place ? 1 : 0);
            }
            due("the place", x.dearest(), place);
        }
    }

    private static void dearestOfSeveral() {
        CHECK.topic("of several the lowest");
        StringRates x = Offices.holding(7);
        due("all alike", x.dearest(), 0);
        x.price(0, 0);
        due("all alike, for nothing", x.dearest(), 0);
        x.change(0, 1, 1);
        due("the first one is not taken", x.dearest(), 1);
        Offices.tie(x, 6, 1, 3);
        due("the last one", x.dearest(), 6);
        Offices.tie(x, 4, 2, 3);
        due("two of them", x.dearest(), 4);
        Offices.tie(x, 2, 1, 3);
        due("three of them", x.dearest(), 2);
        Offices.tie(x, 5, 1, 4);
        due("one more corner", x.dearest(), 5);
    }

    private static void dearestOfThoseTaken() {
        CHECK.topic("of those that are taken");
        StringRates x = new StringRates();
        x.bring(60, 60, 60, 30, 3);
        x.bring(1, 1, 1, 1, 0);
        x.bring(60, 60, 60, 31, 3);
        due("the first is taken", x.dearest(), 0);
        x.change(0, 1, 1);
        due("it has a corner now", x.dearest(), 1);
        x.change(2, 0, 1);
        due("the last is tied well", x.dearest(), 2);
        x.set(1, 149);
        due("the great ones are too big", x.dearest(), 1);
        x.takeBack(1);
        due("they are left alone", x.dearest(), -1);
    }

    private static void numbersOfOneNotTaken() {
        CHECK.topic("promise 17");
        StringRates x = new StringRates();
        x.bring(20, 60, 59, 99, 3);
        x.change(0, 1, 8);
        x.set(1, 108);
        // Girth 60 + 158 = 218; the string 158 and 5; 20 * 4, 40 and 16.
        int[] want = {60, 59, 20, 99, 3, 8, 0, 218, 163, 136, 1};
        for (int what = 0; what <= 10; what++) {
            due("parcelOf(0, " + what + ")", x.parcelOf(0, what), want[what]);
        }
        x.change(0, 0, 2);
        // 240 + 118 + 120 + 15 = 493: 50 * 4, 100 and 16.
        int[] tied = {60, 59, 20, 99, 3, 8, 2, 218, 493, 316, 2};
        for (int what = 0; what <= 10; what++) {
            due("parcelOf(0, " + what + ")", x.parcelOf(0, what), tied[what]);
        }
        x.set(1, 109);
        due("girth 218 with 109", x.parcelOf(0, 10), 0);
        x.set(1, 218);
        due("not odd", x.parcelOf(0, 9), 216);
        x.set(1, 217);
        due("odd", x.parcelOf(0, 9), 316);
    }
}
