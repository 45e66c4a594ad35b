/** For each promise the ordinary answers, the edges and the wrong inputs, with answers told by hand. */
public final class PromiseTest {
    private static final Class<IllegalArgumentException> ARGUMENT = IllegalArgumentException.class;
    private static final Class<IndexOutOfBoundsException> INDEX = IndexOutOfBoundsException.class;
    private static final Class<IllegalStateException> STATE = IllegalStateException.class;

    private static final Check CHECK = new Check();

    public static void main(String[] args) {
        newObject();
        bring();
        change();
        send();
        sendReasons();
        dispute();
        takeBack();
        price();
        zone();
        set();
        append();
        clearBuffer();
        firstError();
        run();
        runAtTheLimit();
        keep();
        goBack();
        undo();
        undoOfRefusals();
        thrownChangesNothing();
        parcelOf();
        strings();
        odd();
        rate();
        count();
        setting();
        cheapestWay();
        ifBundled();
        bundleLimits();
        cheapest();
        dearest();
        savedShare();
        digest();
        digestOfAll();
        CHECK.end();
    }

    private static void due(String call, long got, long want) {
        CHECK.due(call, got, want);
    }

    private static void newObject() {
        CHECK.topic("promise 1");
        StringRates x = new StringRates();
        due("NONE", StringRates.NONE, -1);
        for (int what = 0; what <= 9; what++) {
            due("count", x.count(what), 0);
        }
        due("firstError", x.firstError(), 0);
        due("clearBuffer", x.clearBuffer(), 0);
        CHECK.refuses("goBack(0)", STATE, () -> x.goBack(0));
        CHECK.refuses("goBack(1)", STATE, () -> x.goBack(1));
        CHECK.refuses("undo", STATE, () -> x.undo());
        StringRates y = new StringRates();
        x.bring(1, 1, 1, 1, 0);
        x.append('1');
        due("count of another object", y.count(0), 0);
        due("buffer of another object", y.clearBuffer(), 0);
    }

    private static void bring() {
        CHECK.topic("promise 2");
        StringRates x = new StringRates();
        CHECK.refuses("side 0", ARGUMENT, () -> x.bring(0, 1, 1, 1, 0));
        CHECK.refuses("side 61", ARGUMENT, () -> x.bring(61, 1, 1, 1, 0));
        CHECK.refuses("other 0", ARGUMENT, () -> x.bring(1, 0, 1, 1, 0));
        CHECK.refuses("other 61", ARGUMENT, () -> x.bring(1, 61, 1, 1, 0));
        CHECK.refuses("third 0", ARGUMENT, () -> x.bring(1, 1, 0, 1, 0));
        CHECK.refuses("third 61", ARGUMENT, () -> x.bring(1, 1, 61, 1, 0));
        CHECK.refuses("weight 0", ARGUMENT, () -> x.bring(1, 1, 1, 0, 0));
        CHECK.refuses("weight 100", ARGUMENT, () -> x.bring(1, 1, 1, 100, 0));
        CHECK.refuses("zone -1", ARGUMENT, () -> x.bring(1, 1, 1, 1, -1));
        CHECK.refuses("zone 4", ARGUMENT, () -> x.bring(1, 1, 1, 1, 4));
        CHECK.refuses("the least int", ARGUMENT, () -> x.bring(Integer.MIN_VALUE, 1, 1, 1, 0));
        due("saved after throws", x.count(9), 0);
        due("the least", x.bring(1, 1, 1, 1, 0), 0);
        due("the greatest", x.bring(60, 60, 60, 99, 3), 1);
        for (int number = 2; number < 7; number++) {
            due("number", x.bring(9, 8, 7, 6, 1), number);
        }
        due("saved", x.count(9), 6);
        due("the eighth", x.bring(9, 8, 7, 6, 1), -1);
        due("refused", x.count(7), 1);
        due("parcels", x.count(0), 7);
        CHECK.refuses("out of range, though all are there", ARGUMENT, () -> x.bring(9, 8, 7, 6, 4));
        due("refused after the throw", x.count(7), 1);
        due("tied", x.parcelOf(6, 6), 0);
        due("corners", x.parcelOf(6, 5), 0);
        due("undo of the refusal", x.undo(), 5);
        due("refused after undo", x.count(7), 0);
        Offices.tie(x, 6, 2, 8);
        x.takeBack(6);
        x.bring(2, 2, 2, 2, 2);
        due("way of a new one", x.parcelOf(6, 6), 0);
        due("corners of a new one", x.parcelOf(6, 5), 0);
    }

    private static void change() {
        CHECK.topic("promise 3");
        StringRates x = new StringRates();
        CHECK.refuses("no parcel", INDEX, () -> x.change(0, 0, 0));
        x.bring(5, 5, 5, 5, 0);
        due("way", x.change(0, 0, 2), 0);
        due("way again", x.change(0, 0, 1), 2);
        due("corners", x.change(0, 1, 8), 0);
        due("corners again", x.change(0, 1, 8), 8);
        due("saved, also without a change", x.count(9), 5);
        due("the way now", x.parcelOf(0, 6), 1);
        due("the corners now", x.parcelOf(0, 5), 8);
        CHECK.refuses("both wrong", INDEX, () -> x.change(1, 2, 99));
        CHECK.refuses("parcel -1", INDEX, () -> x.change(-1, 0, 0));
        CHECK.refuses("what -1", ARGUMENT, () -> x.change(0, -1, 0));
        CHECK.refuses("what 2", ARGUMENT, () -> x.change(0, 2, 0));
        CHECK.refuses("way -1", ARGUMENT, () -> x.change(0, 0, -1));
        CHECK.refuses("way 3", ARGUMENT, () -> x.change(0, 0, 3));
        CHECK.refuses("corners -1", ARGUMENT, () -> x.change(0, 1, -1));
        CHECK.refuses("corners 9", ARGUMENT, () -> x.change(0, 1, 9));
        due("saved after throws", x.count(9), 5);
        due("undo", x.undo(), 4);
        x.undo();
        due("corners after undo", x.parcelOf(0, 5), 0);
    }

    private static void send() {
        CHECK.topic("promise 4");
        StringRates x = new StringRates();
        CHECK.refuses("no parcel", INDEX, () -> x.send(0));
        x.bring(10, 30, 20, 5, 0);
        x.bring(3, 2, 1, 7, 1);
        // 2 * (20 + 10) + 5 = 65: the band 1.
        due("send", x.send(0), 20);
        due("parcels", x.count(0), 1);
        due("takings", x.count(3), 10);
        due("sent", x.count(4), 1);
        due("disputes won", x.count(5), 0);
        due("the next one has a lower number", x.parcelOf(0, 3), 7);
        CHECK.refuses("the number that is gone", INDEX, () -> x.send(1));
        CHECK.refuses("-1", INDEX, () -> x.send(-1));
        // 2 * (2 + 1) + 5 = 11: the band 0, 5 * 2.
        due("send", x.send(0), 20);
        due("takings", x.count(3), 20);
        due("saved", x.count(9), 4);
        due("undo", x.undo(), 3);
        due("takings after undo", x.count(3), 10);
        due("sent after undo", x.count(4), 1);
        due("parcels after undo", x.count(0), 1);
        x.price(0, 0);
        due("for nothing", x.send(0), 10);
    }

    private static void sendReasons() {
        CHECK.topic("promise 4");
        StringRates x = new StringRates();
        x.set(1, 50);
        x.bring(60, 60, 60, 31, 0);
        x.change(0, 1, 1);
        due("too heavy first", x.send(0), 1);
        due("refused", x.count(7), 1);
        due("still there", x.count(0), 1);
        due("saved", x.count(9), 4);
        x.change(0, 0, 1);
        due("then too big", x.send(0), 2);
        x.takeBack(0);
        x.bring(60, 60, 60, 30, 0);
        x.change(0, 1, 1);
        due("too big before corners", x.send(0), 2);
        x.takeBack(0);
        // The girth is 60 + 2 * (10 + 10) = 100, which is just twice the setting 1.
        x.bring(10, 60, 10, 30, 0);
        x.change(0, 1, 1);
        due("corners", x.send(0), 3);
        due("refused", x.count(7), 4);
        x.set(1, 51);
        x.bring(60, 11, 10, 61, 0);
        x.change(1, 0, 1);
        due("too heavy, crossed", x.send(1), 1);
        x.takeBack(1);
        x.bring(60, 11, 10, 60, 0);
        x.change(1, 0, 1);
        // 120 + 22 + 40 + 10 = 192: the band 3, odd: 20 + 10.
        due("not too heavy", x.send(1), 40);
        x.bring(60, 12, 10, 99, 0);
        x.change(1, 0, 2);
        due("girth 104", x.send(1), 2);
        x.set(1, 52);
        // 240 + 24 + 60 + 15 = 339: the band 6, odd: 35 + 17.
        due("doubly crossed bears any weight", x.send(1), 62);
    }

    private static void dispute() {
        CHECK.topic("promise 5");
        StringRates x = new StringRates();
        CHECK.refuses("no parcel, no length", INDEX, () -> x.dispute(0, 0));
        x.bring(30, 20, 10, 5, 2);
        CHECK.refuses("length 0", ARGUMENT, () -> x.dispute(0, 0));
        CHECK.refuses("length 1000", ARGUMENT, () -> x.dispute(0, 1000));
        due("saved", x.count(9), 1);
        // It needs 65.
        due("11 less", x.dispute(0, 54), 4);
        due("11 more", x.dispute(0, 76), 4);
        due("lost", x.count(6), 2);
        due("refused", x.count(7), 0);
        due("still there", x.count(0), 1);
        due("saved, also when lost", x.count(9), 3);
        due("10 more", x.dispute(0, 75), 40);
        due("won", x.count(5), 1);
        due("sent", x.count(4), 1);
        due("takings", x.count(3), 30);
        due("parcels", x.count(0), 0);
        x.undo();
        due("10 less", x.dispute(0, 55), 40);
        x.undo();
        x.set(3, 15);
        due("15 less: another band", x.dispute(0, 50), 25);
        x.undo();
        x.set(3, 0);
        due("1 less", x.dispute(0, 64), 4);
        due("just that", x.dispute(0, 65), 40);
        x.bring(30, 20, 10, 31, 2);
        due("not taken", x.dispute(0, 65), 1);
        due("not taken, far off", x.dispute(0, 999), 1);
        due("refused", x.count(7), 2);
        due("lost", x.count(6), 3);
        Offices.tie(x, 0, 1, 3);
        x.set(1, 89);
        x.set(3, 50);
        // It needs 150; 201 is of the band 4; odd: 75 + 37 + 6.
        x.set(0, 6);
        due("odd with corners", x.dispute(0, 201), 128);
    }

    private static void takeBack() {
        CHECK.topic("promise 6");
        StringRates x = new StringRates();
        CHECK.refuses("no parcel", INDEX, () -> x.takeBack(0));
        for (int weight = 1; weight <= 7; weight++) {
            x.bring(1, 2, 3, weight, 0);
        }
        due("takeBack", x.takeBack(2), 6);
        due("before", x.parcelOf(1, 3), 2);
        due("behind", x.parcelOf(2, 3), 4);
        due("the last", x.parcelOf(5, 3), 7);
        due("the last goes", x.takeBack(5), 5);
        due("the first goes", x.takeBack(0), 4);
        due("the first now", x.parcelOf(0, 3), 2);
        CHECK.refuses("4", INDEX, () -> x.takeBack(4));
        CHECK.refuses("-1", INDEX, () -> x.takeBack(-1));
        due("takings", x.count(3), 0);
        due("sent", x.count(4), 0);
        due("refused", x.count(7), 0);
        x.undo();
        due("the first after undo", x.parcelOf(0, 3), 1);
        due("the third after undo", x.parcelOf(2, 3), 4);
    }

    private static void price() {
        CHECK.topic("promise 7");
        StringRates x = new StringRates();
        for (int band = 0; band < 12; band++) {
            due("price", x.price(band, 99 - band), 5 * band + 5);
        }
        due("price again", x.price(11, 0), 88);
        due("price unchanged", x.price(11, 0), 0);
        due("saved", x.count(9), 6);
        CHECK.refuses("band 12", INDEX, () -> x.price(12, 100));
        CHECK.refuses("band -1", INDEX, () -> x.price(-1, 0));
        CHECK.refuses("price 100", ARGUMENT, () -> x.price(0, 100));
        CHECK.refuses("price -1", ARGUMENT, () -> x.price(0, -1));
        x.undo();
        x.undo();
        due("price after undo", x.price(11, 1), 88);
    }

    private static void zone() {
        CHECK.topic("promise 8");
        StringRates x = new StringRates();
        for (int zone = 0; zone < 4; zone++) {
            due("zone", x.zone(zone, 9 - zone), zone + 1);
        }
        due("saved", x.count(9), 4);
        due("again", x.zone(3, 1), 6);
        CHECK.refuses("zone 4", INDEX, () -> x.zone(4, 0));
        CHECK.refuses("zone -1", INDEX, () -> x.zone(-1, 1));
        CHECK.refuses("factor 0", ARGUMENT, () -> x.zone(0, 0));
        CHECK.refuses("factor 10", ARGUMENT, () -> x.zone(0, 10));
        x.bring(1, 1, 1, 1, 0);
        due("postage", x.parcelOf(0, 9), 45);
        x.undo();
        x.undo();
        due("after undo", x.zone(3, 1), 6);
    }

    private static void set() {
        CHECK.topic("promise 9");
        StringRates x = new StringRates();
        int[] first = {5, 150, 2, 10};
        int[] least = {0, 50, 0, 0};
        int[] most = {20, 300, 20, 50};
        for (int setting = 0; setting < 4; setting++) {
            int one = setting;
            due("set", x.set(one, least[one]), first[one]);
            due("set again", x.set(one, most[one]), least[one]);
            int saved = x.count(9);
            CHECK.refuses("too little", ARGUMENT, () -> x.set(one, least[one] - 1));
            CHECK.refuses("too much", ARGUMENT, () -> x.set(one, most[one] + 1));
            due("saved", x.count(9), saved);
            due("setting", x.setting(one), most[one]);
        }
        CHECK.refuses("setting 4", INDEX, () -> x.set(4, -1));
        CHECK.refuses("setting -1", INDEX, () -> x.set(-1, 0));
        x.undo();
        due("after undo", x.setting(3), 0);
    }

    private static void append() {
        CHECK.topic("promise 10");
        StringRates x = new StringRates();
        CHECK.refuses("32", ARGUMENT, () -> x.append(32));
        CHECK.refuses("127", ARGUMENT, () -> x.append(127));
        due("33", x.append(33), 1);
        due("126", x.append(126), 2);
        for (int length = 3; length <= 60; length++) {
            due("length", x.append('x'), length);
        }
        CHECK.refuses("the 61st", STATE, () -> x.append('x'));
        CHECK.refuses("the 61st, out of range", ARGUMENT, () -> x.append(32));
        due("saved", x.count(9), 0);
        due("clearBuffer", x.clearBuffer(), 60);
        due("once more", x.append('x'), 1);
    }

    private static void clearBuffer() {
        CHECK.topic("promise 11");
        StringRates x = new StringRates();
        Offices.write(x, "1x1");
        due("clearBuffer", x.clearBuffer(), 3);
        due("again", x.clearBuffer(), 0);
        due("saved", x.count(9), 0);
        Offices.write(x, "x");
        due("nothing is left from before", x.firstError(), 0);
    }

    private static void firstErrorOf(String words, int want) {
        StringRates x = new StringRates();
        Offices.write(x, words);
        due("firstError of " + words, x.firstError(), want);
        due("once more", x.firstError(), want);
        due("the buffer stays", x.clearBuffer(), words.length());
        due("saved", x.count(9), 0);
    }

    private static void firstError() {
        CHECK.topic("promise 12");
        firstErrorOf("", 0);
        firstErrorOf("60x6x59*99z3d;1x10x9*1z0c;9x9x9*10z2r", 37);
        firstErrorOf("0", 0);
        firstErrorOf("x", 0);
        firstErrorOf(";", 0);
        firstErrorOf("61", 1);
        firstErrorOf("70", 1);
        firstErrorOf("100", 2);
        firstErrorOf("1*", 1);
        firstErrorOf("1X", 1);
        firstErrorOf("1xx", 2);
        firstErrorOf("1x01", 2);
        firstErrorOf("1x1*", 3);
        firstErrorOf("1x1x1x", 5);
        firstErrorOf("1x1x61", 5);
        firstErrorOf("1x1x1*0", 6);
        firstErrorOf("1x1x1*99", 8);
        firstErrorOf("1x1x1*100", 8);
        firstErrorOf("1x1x1*z", 6);
        firstErrorOf("1x1x1*1x", 7);
        firstErrorOf("1x1x1*1z4", 8);
        firstErrorOf("1x1x1*1zr", 8);
        firstErrorOf("1x1x1*1z03", 9);
        firstErrorOf("1x1x1*1z0x", 9);
        firstErrorOf("1x1x1*1z0R", 9);
        firstErrorOf("1x1x1*1z0rr", 10);
        firstErrorOf("1x1x1*1z0c;", 11);
        firstErrorOf("1x1x1*1z0d;;", 11);
        firstErrorOf("1x1x1*1z0d;0", 11);
        firstErrorOf("1x1x1*1z0d;7x!!", 13);
        // Sixty signs of a text that goes on.
        firstErrorOf("60x60x60*99z3d;60x60x60*99z3d;60x60x60*99z3d;60x60x60*99z3d;", 60);
        firstErrorOf("60x60x60*99z3d;60x60x60*99z3d;60x60x60*99z3d;60x60x60*99z3;d", 58);
    }

    private static void run() {
        CHECK.topic("promise 13");
        StringRates x = new StringRates();
        CHECK.refuses("an empty buffer", ARGUMENT, () -> x.run());
        Offices.write(x, "1x1x1*1z0r;");
        CHECK.refuses("it ends with ;", ARGUMENT, () -> x.run());
        due("the buffer stays", x.clearBuffer(), 11);
        Offices.write(x, "1x1x1*1z0");
        CHECK.refuses("no way", ARGUMENT, () -> x.run());
        x.append('?');
        CHECK.refuses("an error", ARGUMENT, () -> x.run());
        due("parcels", x.count(0), 0);
        due("saved", x.count(9), 0);
        x.clearBuffer();
        Offices.write(x, "7x60x42*99z3d;5x5x6*10z1c;1x1x1*1z0r");
        due("run", x.run(), 3);
        due("the buffer is cleared", x.clearBuffer(), 0);
        due("saved", x.count(9), 1);
        int[][] want = {{60, 42, 7, 99, 3, 0, 2}, {6, 5, 5, 10, 1, 0, 1}, {1, 1, 1, 1, 0, 0, 0}};
        for (int parcel = 0; parcel < 3; parcel++) {
            for (int what = 0; what < 7; what++) {
                due("parcel " + parcel + ", " + what, x.parcelOf(parcel, what), want[parcel][what]);
            }
        }
        Offices.write(x, "2x");
        due("undo", x.undo(), 0);
        due("parcels after undo", x.count(0), 0);
        due("undo leaves the buffer", x.clearBuffer(), 2);
    }

    private static void runAtTheLimit() {
        CHECK.topic("promise 13");
        StringRates x = new StringRates();
        for (int parcel = 0; parcel < 4; parcel++) {
            x.bring(1, 1, 1, 1, 0);
        }
        Offices.write(x, "1x1x1*1z0r;1x1x1*2z0c;1x1x1*3z0d;1x1x1*4z0r;1x1x1*5z0r");
        due("run", x.run(), 3);
        due("parcels", x.count(0), 7);
        due("one is refused", x.count(7), 1);
        due("the last", x.parcelOf(6, 3), 3);
        due("saved", x.count(9), 5);
        Offices.write(x, "1x1x1*1z0r;1x1x1*2z0c");
        due("none comes", x.run(), 0);
        due("two are refused", x.count(7), 2);
        due("saved, though none comes", x.count(9), 6);
        due("cleared", x.clearBuffer(), 0);
        x.undo();
        due("refused after undo", x.count(7), 1);
        x.undo();
        due("parcels after undo", x.count(0), 4);
        due("refused after both", x.count(7), 0);
    }

    private static void keep() {
        CHECK.topic("promise 14");
        StringRates x = new StringRates();
        CHECK.refuses("slot -1", ARGUMENT, () -> x.keep(-1));
        CHECK.refuses("slot 2", ARGUMENT, () -> x.keep(2));
        due("keep", x.keep(1), 0);
        x.bring(30, 20, 10, 5, 0);
        x.send(0);
        due("keep with takings", x.keep(0), 10);
        due("not undoable", x.count(9), 2);
        x.bring(30, 20, 10, 5, 0);
        due("in place of the one before", x.keep(1), 10);
        x.takeBack(0);
        due("goBack", x.goBack(1), 10);
        due("parcels", x.count(0), 1);
    }

    private static void goBack() {
        CHECK.topic("promise 15");
        StringRates x = new StringRates();
        CHECK.refuses("slot 2, which is empty as well", ARGUMENT, () -> x.goBack(2));
        CHECK.refuses("slot -1", ARGUMENT, () -> x.goBack(-1));
        CHECK.refuses("an empty slot", STATE, () -> x.goBack(1));
        x.bring(30, 20, 10, 5, 0);
        x.keep(1);
        CHECK.refuses("the other slot", STATE, () -> x.goBack(0));
        x.send(0);
        x.price(0, 99);
        x.zone(0, 9);
        x.set(0, 20);
        Offices.write(x, "1x");
        due("saved", x.count(9), 5);
        due("goBack", x.goBack(1), 0);
        due("saved states stay, one more", x.count(9), 6);
        due("the buffer stays", x.firstError(), 2);
        due("parcels", x.count(0), 1);
        due("sent", x.count(4), 0);
        due("price", x.rate(1, 0), 5);
        due("setting", x.setting(0), 5);
        due("postage", x.parcelOf(0, 9), 10);
        x.change(0, 0, 2);
        due("the snapshot stays as it was", x.goBack(1), 0);
        due("way", x.parcelOf(0, 6), 0);
        x.undo();
        due("way after undo", x.parcelOf(0, 6), 2);
        x.undo();
        x.undo();
        due("parcels after undo of the first goBack", x.count(0), 0);
        due("takings", x.count(3), 10);
        due("price after undo", x.rate(1, 0), 99);
        due("undo leaves the slots", x.goBack(1), 0);
    }

    private static void undo() {
        CHECK.topic("promise 16");
        StringRates x = new StringRates();
        for (int value = 1; value <= 8; value++) {
            x.set(0, value + 5);
        }
        due("saved", x.count(9), 6);
        for (int left = 5; left >= 0; left--) {
            due("undo", x.undo(), left);
            due("setting", x.setting(0), left + 7);
            due("saved", x.count(9), left);
        }
        CHECK.refuses("none is left", STATE, () -> x.undo());
        due("setting", x.setting(0), 7);
        x.keep(0);
        x.set(0, 1);
        x.undo();
        due("a slot outlives undo", x.goBack(0), 0);
    }

    private static void undoOfRefusals() {
        CHECK.topic("promise 16");
        StringRates x = new StringRates();
        x.bring(60, 60, 60, 99, 0);
        x.send(0);
        x.dispute(0, 1);
        due("refused", x.count(7), 2);
        due("undo", x.undo(), 2);
        due("refused", x.count(7), 1);
        due("undo", x.undo(), 1);
        due("refused", x.count(7), 0);
        due("undo", x.undo(), 0);
        due("parcels", x.count(0), 0);
    }

    private static void thrownChangesNothing() {
        CHECK.topic("exceptions");
        StringRates x = new StringRates();
        x.bring(9, 8, 7, 6, 0);
        Offices.write(x, "1x1x1*1z0r!");
        x.keep(0);
        long before = x.digest();
        CHECK.refuses("bring", ARGUMENT, () -> x.bring(9, 8, 7, 6, 9));
        CHECK.refuses("change", ARGUMENT, () -> x.change(0, 0, 3));
        CHECK.refuses("send", INDEX, () -> x.send(1));
        CHECK.refuses("dispute", ARGUMENT, () -> x.dispute(0, Integer.MIN_VALUE));
        CHECK.refuses("takeBack", INDEX, () -> x.takeBack(1));
        CHECK.refuses("price", ARGUMENT, () -> x.price(0, 100));
        CHECK.refuses("zone", ARGUMENT, () -> x.zone(0, 0));
        CHECK.refuses("set", ARGUMENT, () -> x.set(0, 21));
        CHECK.refuses("append", ARGUMENT, () -> x.append(Integer.MAX_VALUE));
        CHECK.refuses("run", ARGUMENT, () -> x.run());
        CHECK.refuses("keep", ARGUMENT, () -> x.keep(2));
        CHECK.refuses("goBack", STATE, () -> x.goBack(1));
        due("digest", x.digest(), before);
    }

    private static void parcelOf() {
        CHECK.topic("promise 17");
        StringRates x = new StringRates();
        CHECK.refuses("no parcel, no what", INDEX, () -> x.parcelOf(0, 11));
        x.bring(10, 60, 20, 31, 3);
        x.bring(60, 60, 60, 31, 3);
        Offices.tie(x, 1, 1, 8);
        int[] want = {60, 20, 10, 31, 3, 0, 0, 120, 65, 40, 1};
        int[] other = {60, 60, 60, 31, 3, 8, 1, 300, 490, 316, 0};
        for (int what = 0; what <= 10; what++) {
            due("parcelOf(0, " + what + ")", x.parcelOf(0, what), want[what]);
            due("parcelOf(1, " + what + ")", x.parcelOf(1, what), other[what]);
        }
        CHECK.refuses("what -1", ARGUMENT, () -> x.parcelOf(0, -1));
        CHECK.refuses("what 11", ARGUMENT, () -> x.parcelOf(0, 11));
        CHECK.refuses("parcel 2", INDEX, () -> x.parcelOf(2, 0));
        CHECK.refuses("parcel -1", INDEX, () -> x.parcelOf(-1, 0));
        due("saved", x.count(9), 4);
        int[][] orders = {{1, 2, 3}, {1, 3, 2}, {2, 1, 3}, {2, 3, 1}, {3, 1, 2}};
        for (int[] sides : orders) {
            int parcel = x.bring(sides[0], sides[1], sides[2], 1, 0);
            due("a", x.parcelOf(parcel, 0), 3);
            due("b", x.parcelOf(parcel, 1), 2);
            due("c", x.parcelOf(parcel, 2), 1);
        }
    }

    private static void strings() {
        CHECK.topic("strings");
        StringRates x = new StringRates();
        x.bring(7, 11, 5, 1, 0);
        due("once round", x.parcelOf(0, 8), 2 * (7 + 5) + 5);
        x.change(0, 0, 1);
        due("crossed", x.parcelOf(0, 8), 22 + 14 + 20 + 10);
        x.change(0, 0, 2);
        due("doubly crossed", x.parcelOf(0, 8), 44 + 14 + 30 + 15);
        x.set(0, 0);
        due("knots that take nothing", x.parcelOf(0, 8), 88);
        x.set(0, 20);
        due("great knots", x.parcelOf(0, 8), 148);
    }

    private static void odd() {
        CHECK.topic("odd parcels");
        StringRates x = new StringRates();
        // Girth 30 + 2 * (20 + 10) = 90; the rate of 65 is 10.
        x.bring(30, 20, 10, 5, 2);
        x.set(1, 90);
        due("just not odd", x.parcelOf(0, 9), 30);
        due("odd ones", x.count(2), 0);
        x.set(1, 89);
        due("odd", x.parcelOf(0, 9), 45);
        due("odd ones", x.count(2), 1);
        x.price(1, 11);
        due("half of 33, rounded down", x.parcelOf(0, 9), 49);
        x.change(0, 1, 5);
        due("corners are not dearer", x.parcelOf(0, 9), 59);
        x.set(1, 50);
        x.change(0, 1, 0);
        due("girth 90 with 50", x.parcelOf(0, 10), 0);
        x.takeBack(0);
        x.bring(31, 30, 5, 5, 0);
        due("girth 101 with 50", x.parcelOf(0, 10), 2);
        due("not taken, but odd", x.count(2), 1);
    }

    private static void rate() {
        CHECK.topic("promise 18");
        StringRates x = new StringRates();
        for (int what = 0; what <= 1; what++) {
            due("1", x.rate(1, what), 5);
            due("50", x.rate(50, what), 5);
            due("51", x.rate(51, what), 10);
            due("550", x.rate(550, what), 55);
            due("551", x.rate(551, what), 60);
            due("600", x.rate(600, what), 60);
            due("601", x.rate(601, what), 60);
            due("999", x.rate(999, what), 60);
        }
        x.price(3, 99);
        x.price(0, 0);
        x.price(11, 7);
        for (int what = 0; what <= 1; what++) {
            due("1 for nothing", x.rate(1, what), 0);
            due("150", x.rate(150, what), 15);
            due("151", x.rate(151, what), 99);
            due("201 is not cheaper", x.rate(201, what), 99);
            due("999 is not cheaper", x.rate(999, what), 99);
        }
        CHECK.refuses("0", ARGUMENT, () -> x.rate(0, 0));
        CHECK.refuses("1000", ARGUMENT, () -> x.rate(1000, 1));
        CHECK.refuses("the least int", ARGUMENT, () -> x.rate(Integer.MIN_VALUE, 0));
        CHECK.refuses("what -1", ARGUMENT, () -> x.rate(1, -1));
        CHECK.refuses("what 2", ARGUMENT, () -> x.rate(1, 2));
        due("saved", x.count(9), 3);
    }

    private static void count() {
        CHECK.topic("promise 19");
        StringRates x = new StringRates();
        x.bring(60, 60, 60, 5, 0);
        x.bring(60, 60, 60, 31, 0);
        x.bring(1, 1, 1, 5, 0);
        due("parcels", x.count(0), 3);
        due("taken", x.count(1), 2);
        due("odd, taken or not", x.count(2), 2);
        due("bands below", x.count(8), 0);
        x.price(5, 5);
        due("one is cheaper", x.count(8), 1);
        x.price(1, 90);
        due("all behind it", x.count(8), 10);
        x.price(5, 90);
        due("the same is not below", x.count(8), 9);
        x.price(0, 91);
        due("all but the first", x.count(8), 11);
        x.dispute(2, 9);
        x.bring(1, 1, 1, 5, 0);
        x.dispute(2, 99);
        x.send(1);
        x.dispute(1, 245);
        x.send(2);
        due("takings", x.count(3), 182);
        due("sent", x.count(4), 2);
        due("won", x.count(5), 1);
        due("lost", x.count(6), 1);
        due("refused", x.count(7), 2);
        due("saved", x.count(9), 6);
        CHECK.refuses("-1", ARGUMENT, () -> x.count(-1));
        CHECK.refuses("10", ARGUMENT, () -> x.count(10));
    }

    private static void setting() {
        CHECK.topic("promise 20");
        StringRates x = new StringRates();
        due("0", x.setting(0), 5);
        due("1", x.setting(1), 150);
        due("2", x.setting(2), 2);
        due("3", x.setting(3), 10);
        CHECK.refuses("-1", INDEX, () -> x.setting(-1));
        CHECK.refuses("4", INDEX, () -> x.setting(4));
    }

    private static void cheapestWay() {
        CHECK.topic("promise 21");
        StringRates x = new StringRates();
        CHECK.refuses("no parcel", INDEX, () -> x.cheapestWay(0));
        x.bring(10, 10, 10, 30, 0);
        x.bring(10, 10, 10, 60, 0);
        x.bring(10, 10, 10, 61, 0);
        x.bring(60, 60, 60, 5, 0);
        due("light", x.cheapestWay(0), 0);
        due("heavy", x.cheapestWay(1), 1);
        due("heaviest", x.cheapestWay(2), 2);
        x.change(0, 0, 2);
        due("however it is tied", x.cheapestWay(0), 0);
        due("it stays so tied", x.parcelOf(0, 6), 2);
        x.change(0, 1, 1);
        due("with a corner", x.cheapestWay(0), 1);
        x.price(0, 60);
        due("of several the least", x.cheapestWay(0), 1);
        due("big", x.cheapestWay(3), 0);
        x.set(1, 149);
        due("too big", x.cheapestWay(3), -1);
        CHECK.refuses("4", INDEX, () -> x.cheapestWay(4));
        CHECK.refuses("-1", INDEX, () -> x.cheapestWay(-1));
    }

    private static void ifBundled() {
        CHECK.topic("promise 22");
        StringRates x = new StringRates();
        CHECK.refuses("no parcels, the same", INDEX, () -> x.ifBundled(0, 0));
        x.bring(30, 4, 2, 10, 1);
        x.bring(20, 12, 9, 20, 1);
        CHECK.refuses("the same", ARGUMENT, () -> x.ifBundled(1, 1));
        CHECK.refuses("no other", INDEX, () -> x.ifBundled(0, 2));
        CHECK.refuses("other -1", INDEX, () -> x.ifBundled(0, -1));
        CHECK.refuses("no parcel", INDEX, () -> x.ifBundled(2, 0));
        CHECK.refuses("none, the same", INDEX, () -> x.ifBundled(2, 2));
        // 30, 12 and 11: 2 * (12 + 11) + 5 = 51: the band 1.
        due("both once round", x.ifBundled(0, 1), 20);
        due("the other way round", x.ifBundled(1, 0), 20);
        Offices.tie(x, 0, 2, 8);
        Offices.tie(x, 1, 1, 7);
        // 120 + 24 + 66 + 15 = 225: the band 4; 15 corners.
        due("the greater way, all corners", x.ifBundled(0, 1), 80);
        x.set(1, 75);
        // Girth 30 + 2 * (12 + 11) = 76.
        due("odd", x.ifBundled(0, 1), 105);
        x.bring(5, 5, 60, 20, 1);
        x.bring(20, 20, 40, 20, 1);
        x.set(1, 300);
        // 60, 20 and 25: told anew, b is 25 and c is 20: 2 * 45 + 5 = 95.
        due("sides told anew", x.ifBundled(2, 3), -1);
        x.change(2, 0, 1);
        // 120 + 50 + 80 + 10 = 260: the band 5.
        due("crossed, 40 in weight", x.ifBundled(2, 3), 60);
        due("saved", x.count(9), 6);
        due("the way stays", x.parcelOf(3, 6), 0);
    }

    private static void bundleLimits() {
        CHECK.topic("promise 22");
        StringRates x = new StringRates();
        x.bring(5, 5, 5, 30, 0);
        x.bring(5, 5, 5, 1, 0);
        due("31 once round", x.ifBundled(0, 1), -1);
        x.change(1, 0, 1);
        due("31 crossed", x.ifBundled(0, 1) > 0 ? 1 : 0, 1);
        x.bring(5, 5, 5, 30, 0);
        x.change(2, 0, 1);
        due("60 crossed", x.ifBundled(0, 2) > 0 ? 1 : 0, 1);
        x.bring(5, 5, 5, 31, 0);
        due("not taken alone", x.ifBundled(3, 1), -1);
        x.change(3, 0, 1);
        due("61 crossed", x.ifBundled(0, 3), -1);
        x.bring(5, 5, 5, 69, 0);
        x.bring(5, 5, 5, 68, 0);
        x.change(4, 0, 2);
        x.change(5, 0, 2);
        due("99", x.ifBundled(0, 4) > 0 ? 1 : 0, 1);
        due("99 again", x.ifBundled(3, 5) > 0 ? 1 : 0, 1);
        due("100", x.ifBundled(3, 4), -1);
        x.bring(5, 5, 5, 1, 1);
        due("another zone", x.ifBundled(0, 6), -1);
        x.change(1, 1, 1);
        x.set(1, 50);
        due("girth 35", x.ifBundled(0, 1) > 0 ? 1 : 0, 1);
        StringRates y = new StringRates();
        y.set(1, 50);
        y.bring(30, 20, 9, 5, 0);
        y.bring(30, 20, 6, 5, 0);
        y.bring(30, 20, 7, 5, 0);
        due("girth 100", y.ifBundled(0, 1), 15);
        due("girth 102", y.ifBundled(0, 2), -1);
    }

    private static void cheapest() {
        CHECK.topic("promise 23");
        StringRates x = new StringRates();
        CHECK.refuses("-1", ARGUMENT, () -> x.cheapest(-1));
        CHECK.refuses("2", ARGUMENT, () -> x.cheapest(2));
        dueCheapest(x, 0);
        for (int parcel = 0; parcel < 7; parcel++) {
            x.bring(2, 2, 1, 5, 0);
        }
        // Three bundles of 2 * (2 + 2) + 5 = 13, and one alone.
        dueCheapest(x, 20);
        x.change(6, 1, 1);
        dueCheapest(x, 15);
        x.price(0, 0);
        dueCheapest(x, 0);
        StringRates y = new StringRates();
        y.bring(50, 30, 1, 1, 0);
        y.bring(50, 30, 1, 1, 0);
        y.bring(30, 1, 1, 1, 0);
        // Strings of 67, 67 and 9; one of 69 for the bundle of the great two, or of a great one and the thin one.
        dueCheapest(y, 15);
        y.bring(30, 1, 1, 30, 0);
        // The fourth can't be tied to any: 10 + 5 + 5.
        dueCheapest(y, 20);
        // The thin ones are not worth a bundle.
        y.price(1, 99);
        y.price(0, 1);
        dueCheapest(y, 101);
        due("saved", y.count(9), 6);
        StringRates z = new StringRates();
        z.bring(1, 1, 16, 1, 0);
        z.bring(1, 16, 1, 1, 0);
        z.set(0, 20);
        z.price(0, 10);
        z.price(1, 30);
        z.bring(15, 14, 1, 1, 0);
        // The two thin ones go together; the flat one would bring any bundle into the dear band.
        dueCheapest(z, z.ifBundled(0, 1) + z.parcelOf(2, 9));
    }

    private static void dueCheapest(StringRates x, int want) {
        due("cheapest(0)", x.cheapest(0), want);
        due("cheapest(1)", x.cheapest(1), want);
    }

    private static void dearest() {
        CHECK.topic("promise 24");
        StringRates x = new StringRates();
        due("none", x.dearest(), -1);
        x.bring(60, 60, 60, 31, 3);
        due("none is taken", x.dearest(), -1);
        x.bring(5, 5, 5, 5, 0);
        due("one", x.dearest(), 1);
        x.bring(5, 5, 5, 5, 2);
        x.bring(5, 5, 5, 5, 2);
        due("of several the lowest", x.dearest(), 2);
        x.price(0, 0);
        due("all for nothing", x.dearest(), 1);
        x.change(0, 0, 1);
        due("the great one", x.dearest(), 0);
    }

    private static void savedShare() {
        CHECK.topic("promise 25");
        StringRates x = new StringRates();
        CHECK.dueShare("nothing", x.savedShare(), 0.0);
        x.bring(2, 2, 1, 5, 0);
        CHECK.dueShare("one", x.savedShare(), 0.0);
        x.bring(2, 2, 1, 5, 0);
        CHECK.dueShare("two", x.savedShare(), 0.5);
        x.bring(2, 2, 1, 5, 0);
        CHECK.dueShare("three", x.savedShare(), 5.0 / 15.0);
        x.bring(2, 2, 1, 31, 0);
        CHECK.dueShare("one is not taken", x.savedShare(), 5.0 / 15.0);
        x.price(0, 0);
        CHECK.dueShare("for nothing", x.savedShare(), 0.0);
        due("saved", x.count(9), 5);
    }

    private static long hashOf(long... values) {
        long hash = 3691;
        for (long value : values) {
            hash = hash * 31 + value;
        }
        return hash;
    }

    private static void digest() {
        CHECK.topic("promise 26");
        StringRates x = new StringRates();
        long want = hashOf(0, 0, 0, 0, 0, 0, 0, 0, 0, 0, 5, 150, 2, 10,
            5, 10, 15, 20, 25, 30, 35, 40, 45, 50, 55, 60, 1, 2, 3, 4, 15, 15, 60, 60,
            0, 0, -1, 0, 0, 0, 0);
        due("a new object", x.digest(), want);
        due("once more", x.digest(), want);
        x.append('a');
        x.append('~');
        x.keep(1);
        due("buffer and slot", x.digest(), hashOf(0, 0, 0, 0, 0, 0, 0, 0, 0, 0, 5, 150, 2, 10,
            5, 10, 15, 20, 25, 30, 35, 40, 45, 50, 55, 60, 1, 2, 3, 4, 15, 15, 60, 60,
            0, 0, -1, 0, 0, 1, 2, 97, 126));
    }

    private static void digestOfAll() {
        CHECK.topic("promise 26");
        StringRates x = new StringRates();
        x.bring(1, 2, 2, 5, 0);
        x.bring(2, 1, 2, 5, 0);
        x.bring(2, 2, 1, 5, 0);
        x.price(2, 1);
        x.keep(0);
        long share = Double.doubleToLongBits(5.0 / 15.0);
        due("three parcels", x.digest(), hashOf(3, 3, 0, 0, 0, 0, 0, 0, 1, 4, 5, 150, 2, 10,
            5, 10, 1, 20, 25, 30, 35, 40, 45, 50, 55, 60, 1, 2, 3, 4, 10, 10, 60, 60,
            2, 2, 1, 5, 0, 0, 0, 8, 11, 5, 0, 0, 5, 5,
            2, 2, 1, 5, 0, 0, 0, 8, 11, 5, 0, 0, 5, 5,
            2, 2, 1, 5, 0, 0, 0, 8, 11, 5, 0, 0, 5, 5,
            10, 10, 0, share, 1, 0, 0));
        x.takeBack(2);
        x.price(2, 15);
        due("two parcels", x.digest(), hashOf(2, 2, 0, 0, 0, 0, 0, 0, 0, 6, 5, 150, 2, 10,
            5, 10, 15, 20, 25, 30, 35, 40, 45, 50, 55, 60, 1, 2, 3, 4, 15, 15, 60, 60,
            2, 2, 1, 5, 0, 0, 0, 8, 11, 5, 0, 0, 5,
            2, 2, 1, 5, 0, 0, 0, 8, 11, 5, 0, 0, 5,
            5, 5, 0, Double.doubleToLongBits(0.5), 1, 0, 0));
    }
}
