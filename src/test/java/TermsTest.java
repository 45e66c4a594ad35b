/** The document's terms, at the edges that they name, with answers told by hand. */
public final class TermsTest {
    private static final Check CHECK = new Check();

    public static void main(String[] args) {
        atMostSeven();
        numbersBehindOneThatIsGone();
        longestNextShortest();
        stringsOfTheLeastAndTheGreatest();
        girths();
        oddAboveTheSetting();
        halfRoundedDown();
        bandsByLength();
        bandsByString();
        neverCheaper();
        greatestPriceInEachPlace();
        firstFactors();
        leastAndGreatestPostage();
        weightLimits();
        girthLimits();
        cornersNeedMoreThanOneRound();
        firstReason();
        disputesAtTheDifference();
        disputesAtTheEndsOfLength();
        disputePostage();
        noDisputeIfNotTaken();
        CHECK.end();
    }

    private static void due(String call, long got, long want) {
        CHECK.due(call, got, want);
    }

    private static StringRates oneOf(int side, int other, int third, int weight, int zone) {
        StringRates x = new StringRates();
        x.bring(side, other, third, weight, zone);
        return x;
    }

    // ---- parcels

    private static void atMostSeven() {
        CHECK.topic("at most 7 parcels");
        StringRates x = Offices.holding(6);
        due("the seventh", x.bring(1, 1, 1, 7, 0), 6);
        due("the eighth", x.bring(1, 1, 1, 8, 0), -1);
        due("parcels", x.count(0), 7);
        due("the seventh stays", x.parcelOf(6, 3), 7);
        x.takeBack(0);
        due("room for one", x.bring(1, 1, 1, 9, 0), 6);
        due("and no more", x.bring(1, 1, 1, 10, 0), -1);
        due("the last", x.parcelOf(6, 3), 9);
        x.send(6);
        due("room after send", x.bring(1, 1, 1, 11, 0), 6);
        x.dispute(6, 9);
        due("room after dispute", x.bring(1, 1, 1, 12, 0), 6);
        due("refused", x.count(7), 2);
    }

    /** Takes one of seven parcels away by each call that does so; the weights tell which are left. */
    private static void numbersBehindOneThatIsGone() {
        CHECK.topic("those behind get numbers that are 1 less");
        for (int gone = 0; gone < 7; gone++) {
            for (int by = 0; by < 3; by++) {
                StringRates x = Offices.holding(7);
                takeAway(x, gone, by);
                due("parcels", x.count(0), 6);
                for (int parcel = 0; parcel < 6; parcel++) {
                    int weight = parcel < gone ? parcel + 1 : parcel + 2;
                    due("weight of " + parcel + ", " + gone + " gone", x.parcelOf(parcel, 3), weight);
                }
                x.undo();
                for (int parcel = 0; parcel < 7; parcel++) {
                    due("weight of " + parcel + " after undo", x.parcelOf(parcel, 3), parcel + 1);
                }
            }
        }
    }

    private static void takeAway(StringRates x, int parcel, int by) {
        switch (by) {
            case 0: due("takeBack", x.takeBack(parcel), 6); break;
            case 1: due("send", x.send(parcel), 15); break;
            default: due("dispute", x.dispute(parcel, 11), 15); break;
        }
    }

    private static void longestNextShortest() {
        CHECK.topic("a, b and c");
        int[][] orders = {
            {1, 2, 60}, {1, 60, 2}, {2, 1, 60}, {2, 60, 1}, {60, 1, 2}, {60, 2, 1}};
        for (int[] told : orders) {
            sides(told, 60, 2, 1);
        }
        sides(new int[] {9, 9, 4}, 9, 9, 4);
        sides(new int[] {9, 4, 9}, 9, 9, 4);
        sides(new int[] {4, 9, 9}, 9, 9, 4);
        sides(new int[] {4, 4, 9}, 9, 4, 4);
        sides(new int[] {4, 9, 4}, 9, 4, 4);
        sides(new int[] {9, 4, 4}, 9, 4, 4);
        sides(new int[] {1, 1, 1}, 1, 1, 1);
        sides(new int[] {60, 60, 60}, 60, 60, 60);
    }

    private static void sides(int[] told, int a, int b, int c) {
        StringRates x = oneOf(told[0], told[1], told[2], 1, 0);
        due("a", x.parcelOf(0, 0), a);
        due("b", x.parcelOf(0, 1), b);
        due("c", x.parcelOf(0, 2), c);
    }

    // ---- strings

    private static void stringsOfTheLeastAndTheGreatest() {
        CHECK.topic("strings");
        int[] none = {0, 0, 0};
        int[] great = {20, 40, 60};
        strings(1, 1, 1, 0, new int[] {4, 8, 12}, none);
        strings(1, 1, 1, 20, new int[] {4, 8, 12}, great);
        strings(60, 60, 60, 0, new int[] {240, 480, 720}, none);
        strings(60, 60, 60, 20, new int[] {240, 480, 720}, great);
        // 2 * 12, 2 * 11 + 2 * 7 + 4 * 5, 4 * 11 + 2 * 7 + 6 * 5.
        strings(7, 5, 11, 1, new int[] {24, 56, 88}, new int[] {1, 2, 3});
        // Each side has a length that tells how often it is gone along.
        strings(60, 1, 1, 5, new int[] {4, 126, 248}, new int[] {5, 10, 15});
        strings(60, 59, 1, 5, new int[] {120, 242, 364}, new int[] {5, 10, 15});
    }

    private static void strings(int side, int other, int third, int knot, int[] bare, int[] knots) {
        StringRates x = oneOf(side, other, third, 1, 0);
        x.set(0, knot);
        for (int way = 0; way <= 2; way++) {
            x.change(0, 0, way);
            due("string in the way " + way, x.parcelOf(0, 8), bare[way] + knots[way]);
        }
    }

    private static void girths() {
        CHECK.topic("girth");
        due("the least", oneOf(1, 1, 1, 1, 0).parcelOf(0, 7), 5);
        due("the greatest", oneOf(60, 60, 60, 1, 0).parcelOf(0, 7), 300);
        due("11 + 2 * (7 + 5)", oneOf(5, 11, 7, 1, 0).parcelOf(0, 7), 35);
    }

    private static void oddAboveTheSetting() {
        CHECK.topic("odd");
        odd(20, 10, 5, 50, false);
        odd(21, 10, 5, 50, true);
        odd(60, 60, 60, 300, false);
        odd(60, 60, 60, 299, true);
        odd(50, 40, 10, 150, false);
        odd(51, 40, 10, 150, true);
    }

    private static void odd(int side, int other, int third, int setting, boolean isOdd) {
        StringRates x = oneOf(side, other, third, 1, 0);
        x.set(1, setting);
        for (int band = 0; band < 12; band++) {
            x.price(band, 10);
        }
        due("odd ones with " + setting, x.count(2), isOdd ? 1 : 0);
        due("postage with " + setting, x.parcelOf(0, 9), isOdd ? 15 : 10);
    }

    private static void halfRoundedDown() {
        CHECK.topic("half of that more");
        StringRates x = oneOf(21, 10, 5, 1, 0);
        x.set(1, 50);
        int[] want = {0, 1, 3, 4, 6, 7};
        for (int price = 0; price < want.length; price++) {
            x.price(0, price);
            due("price " + price, x.parcelOf(0, 9), want[price]);
        }
        x.price(0, 99);
        due("price 99", x.parcelOf(0, 9), 148);
        // The half is told of the rate times the factor, not of the rate: 5 * 3 = 15 and 7.
        x.zone(0, 3);
        x.price(0, 5);
        due("factor 3", x.parcelOf(0, 9), 22);
    }

    // ---- rates

    private static void bandsByLength() {
        CHECK.topic("12 bands");
        StringRates x = new StringRates();
        for (int what = 0; what <= 1; what++) {
            due("1", x.rate(1, what), 5);
            for (int band = 0; band < 12; band++) {
                due("the last length of the band " + band, x.rate(50 * band + 50, what), 5 * band + 5);
                due("one more", x.rate(50 * band + 51, what), band == 11 ? 60 : 5 * band + 10);
            }
            due("999", x.rate(999, what), 60);
        }
    }

    private static void bandsByString() {
        CHECK.topic("the band of a string");
        StringRates x = oneOf(20, 13, 10, 1, 0);
        x.set(1, 300);
        x.set(0, 4);
        due("50", x.parcelOf(0, 8), 50);
        due("postage for 50", x.parcelOf(0, 9), 5);
        x.set(0, 5);
        due("51", x.parcelOf(0, 8), 51);
        due("postage for 51", x.parcelOf(0, 9), 10);
        x.bring(60, 50, 25, 1, 0);
        x.change(1, 0, 2);
        x.set(0, 20);
        due("550", x.parcelOf(1, 8), 550);
        due("postage for 550", x.parcelOf(1, 9), 55);
        x.bring(60, 55, 30, 1, 0);
        x.change(2, 0, 2);
        x.set(0, 7);
        due("551", x.parcelOf(2, 8), 551);
        due("postage for 551", x.parcelOf(2, 9), 60);
        x.bring(60, 60, 60, 1, 0);
        x.change(3, 0, 2);
        x.set(0, 20);
        due("780", x.parcelOf(3, 8), 780);
        due("postage for 780", x.parcelOf(3, 9), 60);
    }

    private static void neverCheaper() {
        CHECK.topic("the greatest price of its band and of all bands below it");
        StringRates x = new StringRates();
        x.price(0, 61);
        dueRate(x, 1, 61);
        dueRate(x, 51, 61);
        dueRate(x, 999, 61);
        x.price(0, 60);
        x.price(11, 61);
        dueRate(x, 550, 60);
        dueRate(x, 551, 61);
        x.price(11, 60);
        dueRate(x, 551, 60);
        x.price(11, 0);
        dueRate(x, 999, 60);
        x.price(0, 0);
        dueRate(x, 50, 0);
        dueRate(x, 51, 10);
        dueRate(x, 999, 55);
    }

    private static void greatestPriceInEachPlace() {
        CHECK.topic("one band with a price, all others for nothing");
        for (int dear = 0; dear < 12; dear++) {
            StringRates x = new StringRates();
            for (int band = 0; band < 12; band++) {
                x.price(band, band == dear ? 99 : 0);
            }
            for (int band = 0; band < 12; band++) {
                dueRate(x, 50 * band + 1, band >= dear ? 99 : 0);
            }
            due("bands below one below them", x.count(8), 11 - dear);
        }
    }

    private static void dueRate(StringRates x, int length, int want) {
        due("rate(" + length + ", 0)", x.rate(length, 0), want);
        due("rate(" + length + ", 1)", x.rate(length, 1), want);
    }

    private static void firstFactors() {
        CHECK.topic("factors");
        for (int zone = 0; zone <= 3; zone++) {
            StringRates x = oneOf(1, 1, 1, 1, zone);
            due("postage at first", x.parcelOf(0, 9), 5 * zone + 5);
            x.zone(zone, 1);
            due("the least factor", x.parcelOf(0, 9), 5);
            x.zone(zone, 9);
            due("the greatest factor", x.parcelOf(0, 9), 45);
            x.zone((zone + 1) % 4, 1);
            due("the factor of another zone", x.parcelOf(0, 9), 45);
        }
    }

    private static void leastAndGreatestPostage() {
        CHECK.topic("postage");
        StringRates x = oneOf(60, 60, 60, 99, 3);
        Offices.tie(x, 0, 2, 8);
        x.price(11, 99);
        x.zone(3, 9);
        x.set(2, 20);
        x.set(0, 20);
        x.set(1, 300);
        // 99 * 9 and 8 * 20.
        due("not odd", x.parcelOf(0, 9), 1051);
        x.set(1, 299);
        // 445 more.
        due("the greatest", x.parcelOf(0, 9), 1496);
        due("send", x.send(0), 1506);
        due("takings", x.count(3), 1496);
        x.price(0, 0);
        x.bring(1, 1, 1, 1, 3);
        due("the least", x.parcelOf(0, 9), 0);
        Offices.tie(x, 0, 1, 1);
        x.set(0, 0);
        due("one corner", x.parcelOf(0, 9), 20);
        x.set(2, 0);
        due("a corner for nothing", x.parcelOf(0, 9), 0);
        due("send for nothing", x.send(0), 10);
        due("takings, nothing more", x.count(3), 1496);
    }

    // ---- taking

    private static void dueReason(StringRates x, int parcel, int want) {
        due("parcelOf(" + parcel + ", 10)", x.parcelOf(parcel, 10), want);
        int refused = x.count(7);
        due("taken", x.count(1), want == 0 ? 1 : 0);
        long answer = x.send(parcel);
        due("send", want == 0 && answer >= 10 ? 0 : answer, want);
        due("refused", x.count(7), want == 0 ? refused : refused + 1);
        due("parcels", x.count(0), want == 0 ? 0 : 1);
        x.undo();
    }

    private static void dueReasonOf(int side, int weight, int way, int corners, int girth, int want) {
        StringRates x = oneOf(side, side, side, weight, 0);
        Offices.tie(x, 0, way, corners);
        x.set(1, girth);
        dueReason(x, 0, want);
    }

    private static void weightLimits() {
        CHECK.topic("reason 1");
        dueReasonOf(5, 1, 0, 0, 150, 0);
        dueReasonOf(5, 30, 0, 0, 150, 0);
        dueReasonOf(5, 31, 0, 0, 150, 1);
        dueReasonOf(5, 99, 0, 0, 150, 1);
        dueReasonOf(5, 31, 1, 0, 150, 0);
        dueReasonOf(5, 60, 1, 0, 150, 0);
        dueReasonOf(5, 61, 1, 0, 150, 1);
        dueReasonOf(5, 99, 1, 0, 150, 1);
        dueReasonOf(5, 61, 2, 0, 150, 0);
        dueReasonOf(5, 99, 2, 0, 150, 0);
    }

    private static void girthLimits() {
        CHECK.topic("reason 2");
        // A cube's girth is five sides.
        dueReasonOf(20, 1, 0, 0, 50, 0);
        dueReasonOf(21, 1, 0, 0, 50, 2);
        dueReasonOf(21, 1, 0, 0, 52, 2);
        dueReasonOf(21, 1, 0, 0, 53, 0);
        dueReasonOf(60, 1, 1, 0, 149, 2);
        dueReasonOf(60, 1, 2, 0, 149, 2);
        dueReasonOf(60, 1, 2, 0, 150, 0);
        dueReasonOf(60, 1, 0, 0, 300, 0);
        StringRates x = oneOf(60, 11, 10, 1, 0);
        x.set(1, 51);
        dueReason(x, 0, 0);
        x.set(1, 50);
        dueReason(x, 0, 2);
        StringRates y = oneOf(59, 11, 10, 1, 0);
        y.set(1, 50);
        dueReason(y, 0, 2);
        StringRates z = oneOf(58, 11, 10, 1, 0);
        z.set(1, 50);
        dueReason(z, 0, 0);
    }

    private static void cornersNeedMoreThanOneRound() {
        CHECK.topic("reason 3");
        dueReasonOf(5, 1, 0, 1, 150, 3);
        dueReasonOf(5, 1, 0, 8, 150, 3);
        dueReasonOf(5, 1, 1, 1, 150, 0);
        dueReasonOf(5, 1, 1, 8, 150, 0);
        dueReasonOf(5, 1, 2, 8, 150, 0);
    }

    private static void firstReason() {
        CHECK.topic("the first reason that is so");
        dueReasonOf(60, 31, 0, 1, 149, 1);
        dueReasonOf(60, 31, 0, 0, 149, 1);
        dueReasonOf(60, 61, 1, 8, 149, 1);
        dueReasonOf(5, 31, 0, 1, 150, 1);
        dueReasonOf(60, 30, 0, 1, 149, 2);
        dueReasonOf(60, 30, 0, 1, 150, 3);
    }

    // ---- disputes

    /** A parcel that needs 65, for 10. */
    private static void dueDispute(int difference, int length, int want) {
        StringRates x = oneOf(30, 20, 10, 5, 0);
        x.set(3, difference);
        due("dispute(0, " + length + ") with " + difference, x.dispute(0, length), want);
        boolean won = want >= 10;
        due("won", x.count(5), won ? 1 : 0);
        due("lost", x.count(6), won ? 0 : 1);
        due("sent", x.count(4), won ? 1 : 0);
        due("takings", x.count(3), won ? want - 10 : 0);
        due("parcels", x.count(0), won ? 0 : 1);
        due("refused", x.count(7), 0);
        due("saved", x.count(9), 3);
        due("undo", x.undo(), 2);
        due("won or lost after undo", x.count(5) + x.count(6) + x.count(4) + x.count(3), 0);
        due("parcels after undo", x.count(0), 1);
    }

    private static void disputesAtTheDifference() {
        CHECK.topic("differs by at most setting 3");
        dueDispute(0, 65, 20);
        dueDispute(0, 64, 4);
        dueDispute(0, 66, 4);
        dueDispute(1, 64, 20);
        dueDispute(1, 66, 20);
        dueDispute(1, 63, 4);
        dueDispute(1, 67, 4);
        dueDispute(10, 55, 20);
        dueDispute(10, 75, 20);
        dueDispute(10, 54, 4);
        dueDispute(10, 76, 4);
        dueDispute(50, 15, 15);
        dueDispute(50, 115, 25);
        dueDispute(50, 14, 4);
        dueDispute(50, 116, 4);
        // One band less, and one more.
        dueDispute(15, 50, 15);
        dueDispute(50, 101, 25);
    }

    private static void disputesAtTheEndsOfLength() {
        CHECK.topic("lengths 1 and 999");
        dueDispute(50, 1, 4);
        dueDispute(50, 999, 4);
        StringRates x = oneOf(20, 13, 10, 5, 0);
        x.set(3, 50);
        due("51 needed, 1 told", x.dispute(0, 1), 15);
        StringRates y = oneOf(1, 1, 1, 5, 0);
        y.set(0, 0);
        y.set(3, 3);
        due("4 needed, 1 told", y.dispute(0, 1), 15);
        StringRates z = oneOf(60, 60, 60, 5, 0);
        z.change(0, 0, 2);
        Offices.tie(z, 0, 2, 0);
        z.set(0, 20);
        z.set(3, 50);
        due("780 needed, 999 told", z.dispute(0, 999), 4);
        due("780 needed, 831 told", z.dispute(0, 831), 4);
        // Odd: 60 and 30.
        due("780 needed, 830 told", z.dispute(0, 830), 100);
    }

    private static void disputePostage() {
        CHECK.topic("the postage that it would have with this length");
        StringRates x = oneOf(60, 12, 7, 40, 3);
        Offices.tie(x, 0, 1, 8);
        x.set(1, 90);
        x.set(2, 3);
        // 120 + 24 + 28 + 10 = 182 is of the band 3; girth 98 is odd: 80, 40 and 24.
        due("needed", x.parcelOf(0, 8), 182);
        due("its own postage", x.parcelOf(0, 9), 144);
        x.set(3, 19);
        // 201 is of the band 4: 100, 50 and 24.
        due("19 more", x.dispute(0, 201), 184);
        due("takings", x.count(3), 174);
        x.undo();
        x.price(0, 99);
        x.set(3, 50);
        // The band 0 is dearer than all behind it: 396, 198 and 24.
        due("less, but not cheaper", x.dispute(0, 132), 628);
    }

    private static void noDisputeIfNotTaken() {
        CHECK.topic("a parcel that is not taken has no dispute");
        int[][] told = {{5, 31, 0, 0, 1}, {60, 1, 0, 0, 2}, {5, 1, 0, 1, 3}, {60, 61, 1, 1, 1}};
        for (int[] one : told) {
            StringRates x = oneOf(one[0], one[0], one[0], one[1], 0);
            Offices.tie(x, 0, one[2], one[3]);
            x.set(1, 149);
            due("what it needs", x.dispute(0, x.parcelOf(0, 8)), one[4]);
            due("far off", x.dispute(0, 999), one[4]);
            due("refused", x.count(7), 2);
            due("won", x.count(5), 0);
            due("lost", x.count(6), 0);
            due("sent", x.count(4), 0);
            due("parcels", x.count(0), 1);
            due("saved", x.count(9), 6);
            x.undo();
            due("refused after undo", x.count(7), 1);
        }
    }
}
