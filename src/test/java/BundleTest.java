/** Bundles and bundlings, at the edges that the document names, with answers told by hand. */
public final class BundleTest {
    private static final Check CHECK = new Check();

    public static void main(String[] args) {
        greaterSidesBothShortest();
        sidesToldAnew();
        longestStringOfAll();
        greaterWay();
        allCorners();
        sameZone();
        bothTaken();
        weightOfBoth();
        girthOfBoth();
        oddBundle();
        noParcelInTwo();
        upToSeven();
        notTakenCostNothing();
        dearBundlesAreLeft();
        manyBundlings();
        savedShares();
        CHECK.end();
    }

    private static void due(String call, long got, long want) {
        CHECK.due(call, got, want);
    }

    private static void dueBundle(StringRates x, int parcel, int other, int want) {
        due("ifBundled(" + parcel + ", " + other + ")", x.ifBundled(parcel, other), want);
        due("ifBundled(" + other + ", " + parcel + ")", x.ifBundled(other, parcel), want);
    }

    private static void dueCheapest(StringRates x, int want) {
        due("cheapest(0)", x.cheapest(0), want);
        due("cheapest(1)", x.cheapest(1), want);
    }

    private static StringRates twoOf(int[] sides, int[] others) {
        StringRates x = new StringRates();
        x.bring(sides[0], sides[1], sides[2], 10, 0);
        x.bring(others[0], others[1], others[2], 10, 0);
        return x;
    }

    private static void greaterSidesBothShortest() {
        CHECK.topic("the sides of a bundle");
        // 15, 12 and 10; once round 2 * 22 and a knot.
        StringRates x = twoOf(new int[] {15, 9, 4}, new int[] {13, 12, 6});
        x.set(0, 6);
        dueBundle(x, 0, 1, 5);
        x.set(0, 7);
        dueBundle(x, 0, 1, 10);
        x.change(0, 0, 1);
        // 30 + 24 + 40 and two knots.
        x.set(0, 3);
        dueBundle(x, 0, 1, 10);
        x.set(0, 4);
        dueBundle(x, 0, 1, 15);
        x.change(1, 0, 2);
        // 60 + 24 + 60 and three knots.
        x.set(0, 2);
        dueBundle(x, 0, 1, 15);
        x.set(0, 3);
        dueBundle(x, 0, 1, 20);
    }

    private static void sidesToldAnew() {
        CHECK.topic("its own a, b and c are told anew");
        // 10, 8 and 11: 11, 10 and 8, so 2 * 18 and a knot.
        StringRates x = twoOf(new int[] {10, 6, 6}, new int[] {8, 8, 5});
        x.set(0, 14);
        dueBundle(x, 0, 1, 5);
        x.set(0, 15);
        dueBundle(x, 0, 1, 10);
        // Crossed 22 + 20 + 32 and two knots.
        x.change(0, 0, 1);
        x.set(0, 13);
        dueBundle(x, 0, 1, 10);
        x.set(0, 14);
        dueBundle(x, 0, 1, 15);
        // 20, 8 and 14: 20, 14 and 8, so 2 * 22 and a knot.
        StringRates y = twoOf(new int[] {20, 8, 7}, new int[] {18, 8, 7});
        y.set(0, 6);
        dueBundle(y, 0, 1, 5);
        y.set(0, 7);
        dueBundle(y, 0, 1, 10);
    }

    private static void longestStringOfAll() {
        CHECK.topic("a bundle's string may be longer than 999");
        StringRates x = twoOf(new int[] {60, 60, 60}, new int[] {60, 60, 60});
        x.change(0, 0, 2);
        x.set(0, 20);
        x.price(11, 99);
        // 120, 60 and 60: 480 + 120 + 360 and 60 are 1020; girth 360.
        x.set(1, 300);
        dueBundle(x, 0, 1, 148);
        x.set(1, 180);
        dueBundle(x, 0, 1, 148);
        x.set(1, 179);
        dueBundle(x, 0, 1, -1);
    }

    private static void greaterWay() {
        CHECK.topic("the greater one of both ways");
        // 30, 10 and 4: 28 once round, 96 crossed, 164 doubly crossed; with knots 33, 106 and 179.
        int[] postage = {5, 15, 20};
        StringRates x = twoOf(new int[] {30, 10, 2}, new int[] {30, 10, 2});
        for (int way = 0; way <= 2; way++) {
            for (int other = 0; other <= 2; other++) {
                x.change(0, 0, way);
                x.change(1, 0, other);
                dueBundle(x, 0, 1, postage[Math.max(way, other)]);
            }
        }
    }

    private static void allCorners() {
        CHECK.topic("all corners of both");
        StringRates x = twoOf(new int[] {2, 2, 1}, new int[] {2, 2, 1});
        x.change(0, 0, 1);
        dueBundle(x, 0, 1, 5);
        x.change(0, 1, 8);
        dueBundle(x, 0, 1, 21);
        x.change(1, 1, 8);
        // The other one, once round with corners, is not taken.
        dueBundle(x, 0, 1, -1);
        x.change(1, 0, 1);
        dueBundle(x, 0, 1, 37);
        x.set(2, 20);
        dueBundle(x, 0, 1, 325);
        x.set(2, 0);
        dueBundle(x, 0, 1, 5);
        x.change(0, 1, 0);
        x.set(2, 1);
        dueBundle(x, 0, 1, 13);
    }

    private static void sameZone() {
        CHECK.topic("parcels of the same zone");
        StringRates x = new StringRates();
        for (int zone = 0; zone <= 3; zone++) {
            x.bring(2, 2, 1, 5, zone);
        }
        for (int zone = 0; zone <= 3; zone++) {
            due("the number", x.bring(2, 2, 1, 5, zone), 4);
            for (int parcel = 0; parcel <= 3; parcel++) {
                dueBundle(x, parcel, 4, parcel == zone ? 5 * zone + 5 : -1);
            }
            x.takeBack(4);
        }
        // The same factor does not make it the same zone.
        x.zone(1, 1);
        dueBundle(x, 0, 1, -1);
        dueCheapest(x, 5 + 5 + 15 + 20);
    }

    private static void bothTaken() {
        CHECK.topic("both are taken");
        // Reason 1 of the one: it would be light enough for the way of the other.
        StringRates x = twoOf(new int[] {5, 5, 5}, new int[] {5, 5, 5});
        x.bring(5, 5, 5, 31, 0);
        x.change(0, 0, 1);
        dueBundle(x, 0, 2, -1);
        x.change(2, 0, 1);
        // 10, 5 and 5: 20 + 10 + 20 + 10.
        dueBundle(x, 0, 2, 10);
        // Reason 3.
        x.change(1, 1, 1);
        dueBundle(x, 0, 1, -1);
        x.change(1, 1, 0);
        dueBundle(x, 0, 1, 10);
        // Reason 2: girth 101.
        x.bring(31, 30, 5, 1, 0);
        x.set(1, 50);
        dueBundle(x, 0, 3, -1);
        x.set(1, 150);
        // 31, 30 and 10, crossed: 62 + 60 + 40 + 10.
        dueBundle(x, 0, 3, 20);
    }

    private static void weightOfBoth() {
        CHECK.topic("both weights together");
        int[][] told = {
            {0, 15, 15, 1}, {0, 15, 16, 0}, {0, 30, 1, 0}, {0, 29, 1, 1},
            {1, 30, 30, 1}, {1, 60, 1, 0}, {1, 59, 1, 1}, {1, 30, 31, 0},
            {2, 49, 50, 1}, {2, 50, 50, 0}, {2, 98, 1, 1}, {2, 99, 1, 0}, {2, 99, 99, 0}};
        for (int[] one : told) {
            StringRates x = new StringRates();
            x.bring(2, 2, 1, one[1], 0);
            x.bring(2, 2, 1, one[2], 0);
            x.change(0, 0, one[0]);
            x.change(1, 0, one[0]);
            dueBundle(x, 0, 1, one[3] == 1 ? 5 : -1);
            dueCheapest(x, one[3] == 1 ? 5 : 10);
        }
    }

    private static void girthOfBoth() {
        CHECK.topic("the girth of a bundle");
        // 40, 20 and 10: girth 100; the string of 65 is for 10, and 5 as it is odd.
        StringRates x = twoOf(new int[] {40, 20, 5}, new int[] {30, 20, 5});
        x.set(1, 50);
        dueBundle(x, 0, 1, 15);
        x.bring(41, 20, 5, 10, 0);
        dueBundle(x, 0, 2, -1);
        x.set(1, 51);
        dueBundle(x, 0, 2, 15);
    }

    private static void oddBundle() {
        CHECK.topic("an odd bundle");
        StringRates x = twoOf(new int[] {10, 8, 4}, new int[] {10, 8, 4});
        // 10, 8 and 8: girth 42.
        x.set(1, 50);
        dueBundle(x, 0, 1, 5);
        // 18, 8 and 8: girth 50.
        x.bring(18, 8, 4, 10, 0);
        dueBundle(x, 0, 2, 5);
        // 19, 8 and 8: girth 51; 5 and 2.
        x.bring(19, 8, 4, 10, 0);
        dueBundle(x, 0, 3, 7);
        due("odd ones, none of the parcels", x.count(2), 0);
    }

    // ---- bundlings

    private static void noParcelInTwo() {
        CHECK.topic("no parcel being in two");
        StringRates x = new StringRates();
        dueCheapest(x, 0);
        int[] want = {5, 5, 10, 10, 15, 15, 20};
        for (int parcel = 0; parcel < 7; parcel++) {
            x.bring(2, 2, 1, 4, 0);
            dueCheapest(x, want[parcel]);
        }
    }

    private static void upToSeven() {
        CHECK.topic("all pairs of seven");
        // The two of one zone find each other, wherever they stand.
        for (int one = 0; one < 7; one++) {
            for (int other = one + 1; other < 7; other++) {
                StringRates x = new StringRates();
                for (int parcel = 0; parcel < 7; parcel++) {
                    // 31 in weight, crossed, is too heavy for a bundle of two such.
                    x.bring(2, 2, 1, parcel == one || parcel == other ? 30 : 31, 0);
                    x.change(parcel, 0, 1);
                }
                dueCheapest(x, 30);
            }
        }
    }

    private static void notTakenCostNothing() {
        CHECK.topic("parcels that are not taken");
        StringRates x = new StringRates();
        x.bring(2, 2, 1, 31, 0);
        x.bring(2, 2, 1, 99, 0);
        dueCheapest(x, 0);
        due("dearest", x.dearest(), -1);
        x.bring(2, 2, 1, 1, 0);
        dueCheapest(x, 5);
        x.change(2, 1, 1);
        dueCheapest(x, 0);
        x.change(2, 0, 1);
        dueCheapest(x, 7);
        x.change(0, 0, 1);
        // Both crossed, 32 in weight, one corner.
        dueCheapest(x, 7);
        x.set(1, 50);
        x.bring(31, 30, 5, 1, 0);
        dueCheapest(x, 7);
    }

    private static void dearBundlesAreLeft() {
        CHECK.topic("bundles that cost more than their parcels");
        // Alone 2 * 20 + 5 = 45 each; together 30, 10 and 20: 65.
        StringRates x = twoOf(new int[] {30, 10, 10}, new int[] {30, 10, 10});
        dueBundle(x, 0, 1, 10);
        dueCheapest(x, 10);
        x.price(1, 11);
        dueBundle(x, 0, 1, 11);
        dueCheapest(x, 10);
        CHECK.dueShare("savedShare", x.savedShare(), 0.0);
        x.price(1, 9);
        dueCheapest(x, 9);
        CHECK.dueShare("savedShare", x.savedShare(), 0.1);
        x.price(1, 0);
        dueCheapest(x, 5);
        CHECK.dueShare("savedShare", x.savedShare(), 0.5);
    }

    private static void manyBundlings() {
        CHECK.topic("the first pair is not the best one");
        StringRates x = new StringRates();
        x.bring(2, 2, 1, 10, 0);
        x.bring(2, 2, 1, 15, 0);
        x.bring(2, 2, 1, 15, 0);
        x.bring(2, 2, 1, 20, 0);
        // 0 with 3 and 1 with 2; 0 with 1 leaves two that are too heavy together.
        dueBundle(x, 0, 1, 5);
        dueBundle(x, 1, 2, 5);
        dueBundle(x, 0, 3, 5);
        dueBundle(x, 2, 3, -1);
        dueCheapest(x, 10);
        // Once round with corners, 0 is not taken, and 3 stays alone.
        x.change(0, 1, 8);
        dueCheapest(x, 10);
        // Taken again, with 16 for its corners.
        x.change(0, 0, 2);
        dueCheapest(x, 26);
    }

    private static void savedShares() {
        CHECK.topic("how much bundling saves");
        StringRates x = new StringRates();
        CHECK.dueShare("without parcels", x.savedShare(), 0.0);
        x.bring(2, 2, 1, 31, 0);
        CHECK.dueShare("none taken", x.savedShare(), 0.0);
        x.takeBack(0);
        double[] want = {0.0, 5.0 / 10.0, 5.0 / 15.0, 10.0 / 20.0, 10.0 / 25.0, 15.0 / 30.0, 15.0 / 35.0};
        for (int parcel = 0; parcel < 7; parcel++) {
            x.bring(2, 2, 1, 4, 0);
            CHECK.dueShare((parcel + 1) + " parcels", x.savedShare(), want[parcel]);
        }
        x.bring(1, 1, 1, 1, 0);
        CHECK.dueShare("after a refusal", x.savedShare(), 15.0 / 35.0);
        x.price(0, 0);
        CHECK.dueShare("all for nothing", x.savedShare(), 0.0);
        smallShare();
    }

    private static void smallShare() {
        StringRates x = new StringRates();
        x.price(0, 1);
        x.price(11, 99);
        x.zone(3, 9);
        x.set(2, 20);
        x.set(1, 299);
        for (int parcel = 0; parcel < 5; parcel++) {
            x.bring(60, 60, 60, 99, 3);
            Offices.tie(x, parcel, 2, 8);
        }
        x.bring(1, 1, 1, 1, 0);
        x.bring(1, 1, 1, 1, 0);
        // The string of each great one is 735.
        due("a great one", x.parcelOf(4, 9), 1496);
        dueCheapest(x, 5 * 1496 + 1);
        CHECK.dueShare("savedShare", x.savedShare(), 1.0 / 7482.0);
    }
}
