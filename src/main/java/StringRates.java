/** A post office that takes parcels by the string that ties them; ../shared/DOC.md is its document. */
public final class StringRates {
    public static final int NONE = -1;

    private static final int MOST_PARCELS = 7;
    private static final int BANDS = 12;
    private static final int ZONES = 4;
    private static final int SETTINGS = 4;
    private static final int SLOTS = 2;
    private static final int MOST_SAVED = 6;
    private static final int MOST_CODES = 60;

    private static final int MOST_SIDE = 60;
    private static final int MOST_WEIGHT = 99;
    private static final int MOST_CORNERS = 8;
    private static final int MOST_PRICE = 99;
    private static final int MOST_FACTOR = 9;
    private static final int MOST_LENGTH = 999;
    private static final int BAND_WIDTH = 50;

    private static final int ONCE_ROUND = 0;
    private static final int CROSSED = 1;
    private static final int DOUBLY_CROSSED = 2;
    private static final int MOST_WEIGHT_ONCE_ROUND = 30;
    private static final int MOST_WEIGHT_CROSSED = 60;

    private static final int KNOT = 0;
    private static final int GREATEST_GIRTH = 1;
    private static final int CORNER_COST = 2;
    private static final int DISPUTE_MARGIN = 3;
    private static final int[] FIRST_SETTING = {5, 150, 2, 10};
    private static final int[] LEAST_SETTING = {0, 50, 0, 0};
    private static final int[] MOST_SETTING = {20, 300, 20, 50};

    private static final int TAKEN = 0;
    private static final int TOO_HEAVY = 1;
    private static final int TOO_BIG = 2;
    private static final int CORNERS_UNTIED = 3;
    private static final int DISPUTE_LOST = 4;
    // An answer of 10 or more is a postage, so that it never looks like a reason.
    private static final int SENT = 10;

    private final Office office = new Office();
    private final Office[] snapshots = new Office[SLOTS];
    private final boolean[] kept = new boolean[SLOTS];
    private final SavedStates saved = new SavedStates();
    private final ParcelText text = new ParcelText();
    private final Bundling bundling = new Bundling();

    public StringRates() {
        for (int slot = 0; slot < snapshots.length; slot++) {
            snapshots[slot] = new Office();
        }
    }

    // ---- parcels

    public int bring(int side, int other, int third, int weight, int zone) throws IllegalArgumentException {
        requireArgument(isIn(side, 1, MOST_SIDE) && isIn(other, 1, MOST_SIDE) && isIn(third, 1, MOST_SIDE));
        requireArgument(isIn(weight, 1, MOST_WEIGHT) && isIn(zone, 0, ZONES - 1));
        saved.save(office);
        return office.admit(side, other, third, weight, zone, ONCE_ROUND);
    }

    public int change(int parcel, int what, int value) throws IndexOutOfBoundsException, IllegalArgumentException {
        requireParcel(parcel);
        requireArgument(what == 0 || what == 1);
        requireArgument(isIn(value, 0, what == 0 ? DOUBLY_CROSSED : MOST_CORNERS));
        saved.save(office);
        Parcel changed = office.parcels[parcel];
        return what == 0 ? changed.tie(value) : changed.insure(value);
    }

    public int send(int parcel) throws IndexOutOfBoundsException {
        requireParcel(parcel);
        saved.save(office);
        return office.sendOff(parcel);
    }

    public int dispute(int parcel, int length) throws IndexOutOfBoundsException, IllegalArgumentException {
        requireParcel(parcel);
        requireArgument(isIn(length, 1, MOST_LENGTH));
        saved.save(office);
        return office.decideDispute(parcel, length);
    }

    public int takeBack(int parcel) throws IndexOutOfBoundsException {
        requireParcel(parcel);
        saved.save(office);
        office.remove(parcel);
        return office.size;
    }

    // ---- rates

    public int price(int band, int price) throws IndexOutOfBoundsException, IllegalArgumentException {
        requireIndex(band, BANDS);
        requireArgument(isIn(price, 0, MOST_PRICE));
        saved.save(office);
        int before = office.prices[band];
        office.prices[band] = price;
        return before;
    }

    public int zone(int zone, int factor) throws IndexOutOfBoundsException, IllegalArgumentException {
        requireIndex(zone, ZONES);
        requireArgument(isIn(factor, 1, MOST_FACTOR));
        saved.save(office);
        int before = office.factors[zone];
        office.factors[zone] = factor;
        return before;
    }

    public int set(int setting, int value) throws IndexOutOfBoundsException, IllegalArgumentException {
        requireIndex(setting, SETTINGS);
        requireArgument(isIn(value, LEAST_SETTING[setting], MOST_SETTING[setting]));
        saved.save(office);
        int before = office.settings[setting];
        office.settings[setting] = value;
        return before;
    }

    // ---- texts, snapshots

    public int append(int code) throws IllegalArgumentException, IllegalStateException {
        requireArgument(isIn(code, 33, 126));
        if (!text.hasRoom()) {
            throw new IllegalStateException("the buffer is full");
        }
        text.add(code);
        return text.length;
    }

    public int clearBuffer() {
        int before = text.length;
        text.clear();
        return before;
    }

    public int firstError() {
        return text.errorPlace();
    }

    public int run() throws IllegalArgumentException {
        requireArgument(text.tellsParcels());
        saved.save(office);
        int come = admitAllOfText();
        text.clear();
        return come;
    }

    public int keep(int slot) throws IllegalArgumentException {
        requireArgument(isIn(slot, 0, SLOTS - 1));
        snapshots[slot].copyFrom(office);
        kept[slot] = true;
        return office.takings;
    }

    public int goBack(int slot) throws IllegalArgumentException, IllegalStateException {
        requireArgument(isIn(slot, 0, SLOTS - 1));
        if (!kept[slot]) {
            throw new IllegalStateException("there is no snapshot in the slot");
        }
        saved.save(office);
        office.copyFrom(snapshots[slot]);
        return office.takings;
    }

    public int undo() throws IllegalStateException {
        if (saved.size == 0) {
            throw new IllegalStateException("there is no saved state");
        }
        saved.restoreLatest(office);
        return saved.size;
    }

    // ---- looks; nothing is changed

    public int parcelOf(int parcel, int what) throws IndexOutOfBoundsException, IllegalArgumentException {
        requireParcel(parcel);
        requireArgument(isIn(what, 0, 10));
        return office.numberOf(office.parcels[parcel], what);
    }

    public int rate(int length, int what) throws IllegalArgumentException {
        requireArgument(isIn(length, 1, MOST_LENGTH) && isIn(what, 0, 1));
        return what == 0 ? office.rateUpwards(length) : office.rateDownwards(length);
    }

    public int count(int what) throws IllegalArgumentException {
        requireArgument(isIn(what, 0, 9));
        return what == 9 ? saved.size : office.tally(what);
    }

    public int setting(int setting) throws IndexOutOfBoundsException {
        requireIndex(setting, SETTINGS);
        return office.settings[setting];
    }

    // ---- what would be; nothing is changed

    public int cheapestWay(int parcel) throws IndexOutOfBoundsException {
        requireParcel(parcel);
        return office.leastWay(office.parcels[parcel]);
    }

    public int ifBundled(int parcel, int other) throws IndexOutOfBoundsException, IllegalArgumentException {
        requireParcel(parcel);
        requireParcel(other);
        requireArgument(parcel != other);
        return bundling.postageOfPair(office, office.parcels[parcel], office.parcels[other]);
    }

    public int cheapest(int what) throws IllegalArgumentException {
        requireArgument(isIn(what, 0, 1));
        bundling.weigh(office);
        return what == 0 ? bundling.leastBySets() : bundling.leastByTrying();
    }

    public int dearest() {
        return office.dearestTaken();
    }

    public double savedShare() {
        bundling.weigh(office);
        int unbundled = bundling.costUnbundled();
        if (unbundled == 0) {
            return 0.0;
        }
        return (double) (unbundled - bundling.leastBySets()) / (double) unbundled;
    }

    public long digest() {
        long hash = 3691L;
        for (int what = 0; what <= 9; what++) {
            hash = fold(hash, count(what));
        }
        hash = foldRow(hash, office.settings, SETTINGS);
        hash = foldRow(hash, office.prices, BANDS);
        hash = foldRow(hash, office.factors, ZONES);
        hash = fold(hash, rate(120, 0));
        hash = fold(hash, rate(120, 1));
        hash = fold(hash, rate(MOST_LENGTH, 0));
        hash = fold(hash, rate(MOST_LENGTH, 1));
        for (int parcel = 0; parcel < office.size; parcel++) {
            hash = foldParcel(hash, parcel);
        }
        hash = fold(hash, cheapest(0));
        hash = fold(hash, cheapest(1));
        hash = fold(hash, dearest());
        hash = fold(hash, bitsOfShare(savedShare()));
        for (int slot = 0; slot < kept.length; slot++) {
            hash = fold(hash, kept[slot] ? 1 : 0);
        }
        hash = fold(hash, text.length);
        return foldRow(hash, text.codes, text.length);
    }

    // ---- helpers of the face

    private static boolean isIn(int value, int least, int greatest) {
        return value >= least && value <= greatest;
    }

    private static void requireArgument(boolean fits) {
        if (!fits) {
            throw new IllegalArgumentException("an argument is out of range");
        }
    }

    private static void requireIndex(int index, int size) {
        if (index < 0 || index >= size) {
            throw new IndexOutOfBoundsException("there is no such number");
        }
    }

    private void requireParcel(int parcel) {
        requireIndex(parcel, office.size);
    }

    private int admitAllOfText() {
        int come = 0;
        text.startReading();
        for (int i = 0; i < text.length && i < text.codes.length; i++) {
            text.reads(text.codes[i]);
            if (text.isAtParcelEnd()) {
                if (text.admitReadTo(office) == NONE) {
                    return come;
                }
                come++;
            }
        }
        return come;
    }

    private static long fold(long hash, long value) {
        return 31L * hash + value;
    }

    private static long foldRow(long hash, int[] row, int size) {
        long folded = hash;
        for (int i = 0; i < size && i < row.length; i++) {
            folded = fold(folded, row[i]);
        }
        return folded;
    }

    private long foldParcel(long hash, int parcel) {
        long folded = hash;
        for (int what = 0; what <= 10; what++) {
            folded = fold(folded, parcelOf(parcel, what));
        }
        folded = fold(folded, cheapestWay(parcel));
        for (int other = 0; other < office.size; other++) {
            if (other != parcel) {
                folded = fold(folded, ifBundled(parcel, other));
            }
        }
        return folded;
    }

    // The library call for these bits is not among those that the language leaves. A share
    // is 0 or lies between a millionth and 1: it has no sign, and doubling it is exact.
    private static long bitsOfShare(double share) {
        if (share <= 0.0) {
            return 0L;
        }
        double scaled = share;
        long exponent = 1023L;
        for (int i = 0; i < 64 && scaled < 1.0; i++) {
            scaled = scaled * 2.0;
            exponent--;
        }
        return (exponent << 52) + (long) ((scaled - 1.0) * 4503599627370496.0);
    }

    /** A parcel or a bundle. Only values that the face has tested come in here. */
    private static final class Parcel {
        int a;
        int b;
        int c;
        int weight;
        int zone;
        int corners;
        int way;

        void fill(int side, int other, int third, int newWeight, int newZone, int newWay) {
            laySides(side, other, third);
            weight = newWeight;
            zone = newZone;
            corners = 0;
            way = newWay;
        }

        void copyFrom(Parcel source) {
            a = source.a;
            b = source.b;
            c = source.c;
            weight = source.weight;
            zone = source.zone;
            corners = source.corners;
            way = source.way;
        }

        void becomeBundle(Parcel one, Parcel other) {
            laySides(Math.max(one.a, other.a), Math.max(one.b, other.b), one.c + other.c);
            weight = one.weight + other.weight;
            zone = one.zone;
            corners = one.corners + other.corners;
            way = Math.max(one.way, other.way);
        }

        int tie(int newWay) {
            int before = way;
            way = newWay;
            return before;
        }

        int insure(int newCorners) {
            int before = corners;
            corners = newCorners;
            return before;
        }

        int girth() {
            return a + 2 * (b + c);
        }

        int stringWithoutKnots(int tiedWay) {
            if (tiedWay == ONCE_ROUND) {
                return 2 * (b + c);
            }
            if (tiedWay == CROSSED) {
                return 2 * a + 2 * b + 4 * c;
            }
            return 4 * a + 2 * b + 6 * c;
        }

        private void laySides(int side, int other, int third) {
            a = Math.max(side, Math.max(other, third));
            c = Math.min(side, Math.min(other, third));
            b = side + other + third - a - c;
        }
    }

    /** All that a snapshot holds: the parcels, the rates, the settings and what is counted so far. */
    private static final class Office {
        final Parcel[] parcels = new Parcel[MOST_PARCELS];
        final int[] prices = new int[BANDS];
        final int[] factors = new int[ZONES];
        final int[] settings = new int[SETTINGS];
        int size;
        int takings;
        int sent;
        int disputesWon;
        int disputesLost;
        int refused;

        Office() {
            for (int i = 0; i < parcels.length; i++) {
                parcels[i] = new Parcel();
            }
            for (int band = 0; band < prices.length; band++) {
                prices[band] = 5 * band + 5;
            }
            for (int i = 0; i < factors.length; i++) {
                factors[i] = i + 1;
            }
            for (int i = 0; i < settings.length && i < FIRST_SETTING.length; i++) {
                settings[i] = FIRST_SETTING[i];
            }
        }

        void copyFrom(Office source) {
            for (int i = 0; i < source.size && i < parcels.length; i++) {
                parcels[i].copyFrom(source.parcels[i]);
            }
            System.arraycopy(source.prices, 0, prices, 0, BANDS);
            System.arraycopy(source.factors, 0, factors, 0, ZONES);
            System.arraycopy(source.settings, 0, settings, 0, SETTINGS);
            size = source.size;
            takings = source.takings;
            sent = source.sent;
            disputesWon = source.disputesWon;
            disputesLost = source.disputesLost;
            refused = source.refused;
        }

        int admit(int side, int other, int third, int weight, int zone, int way) {
            if (size >= parcels.length) {
                refused++;
                return NONE;
            }
            parcels[size].fill(side, other, third, weight, zone, way);
            size++;
            return size - 1;
        }

        void remove(int parcel) {
            Parcel gone = parcels[parcel];
            int last = parcel;
            for (int i = parcel + 1; i < size && i < parcels.length; i++) {
                parcels[i - 1] = parcels[i];
                last = i;
            }
            // The object is used again for a later parcel, so that none is made after the start.
            parcels[last] = gone;
            size--;
        }

        int sendOff(int parcel) {
            Parcel leaving = parcels[parcel];
            int reason = reasonAgainst(leaving, leaving.way);
            if (reason != TAKEN) {
                refused++;
                return reason;
            }
            return dispatch(parcel, stringOf(leaving, leaving.way));
        }

        int decideDispute(int parcel, int told) {
            Parcel disputed = parcels[parcel];
            int reason = reasonAgainst(disputed, disputed.way);
            if (reason != TAKEN) {
                refused++;
                return reason;
            }
            if (Math.abs(told - stringOf(disputed, disputed.way)) > settings[DISPUTE_MARGIN]) {
                disputesLost++;
                return DISPUTE_LOST;
            }
            disputesWon++;
            return dispatch(parcel, told);
        }

        private int dispatch(int parcel, int length) {
            int postage = postageFor(parcels[parcel], length);
            takings += postage;
            sent++;
            remove(parcel);
            return SENT + postage;
        }

        int stringOf(Parcel parcel, int way) {
            return parcel.stringWithoutKnots(way) + (way + 1) * settings[KNOT];
        }

        boolean isOdd(Parcel parcel) {
            return parcel.girth() > settings[GREATEST_GIRTH];
        }

        int reasonAgainst(Parcel parcel, int way) {
            if (way == ONCE_ROUND && parcel.weight > MOST_WEIGHT_ONCE_ROUND) {
                return TOO_HEAVY;
            }
            if (way == CROSSED && parcel.weight > MOST_WEIGHT_CROSSED) {
                return TOO_HEAVY;
            }
            if (parcel.girth() > 2 * settings[GREATEST_GIRTH]) {
                return TOO_BIG;
            }
            return way == ONCE_ROUND && parcel.corners > 0 ? CORNERS_UNTIED : TAKEN;
        }

        boolean isTaken(Parcel parcel) {
            return reasonAgainst(parcel, parcel.way) == TAKEN;
        }

        int postageFor(Parcel parcel, int length) {
            int carriage = rateUpwards(length) * factors[parcel.zone];
            int forOdd = isOdd(parcel) ? carriage / 2 : 0;
            return carriage + forOdd + settings[CORNER_COST] * parcel.corners;
        }

        int rateUpwards(int length) {
            int own = bandOf(length);
            int greatest = 0;
            for (int band = 0; band <= own && band < prices.length; band++) {
                greatest = Math.max(greatest, prices[band]);
            }
            return greatest;
        }

        int rateDownwards(int length) {
            int own = bandOf(length);
            int best = own;
            for (int band = own - 1; band >= 0; band--) {
                if (prices[band] > prices[best]) {
                    best = band;
                }
            }
            return prices[best];
        }

        int leastWay(Parcel parcel) {
            int best = NONE;
            int least = 0;
            for (int way = ONCE_ROUND; way <= DOUBLY_CROSSED; way++) {
                if (reasonAgainst(parcel, way) == TAKEN) {
                    int postage = postageFor(parcel, stringOf(parcel, way));
                    if (best == NONE || postage < least) {
                        best = way;
                        least = postage;
                    }
                }
            }
            return best;
        }

        int dearestTaken() {
            int best = NONE;
            int greatest = 0;
            for (int i = 0; i < size && i < parcels.length; i++) {
                Parcel parcel = parcels[i];
                int postage = postageFor(parcel, stringOf(parcel, parcel.way));
                if (isTaken(parcel) && (best == NONE || postage > greatest)) {
                    best = i;
                    greatest = postage;
                }
            }
            return best;
        }

        int numberOf(Parcel parcel, int what) {
            switch (what) {
                case 0: return parcel.a;
                case 1: return parcel.b;
                case 2: return parcel.c;
                case 3: return parcel.weight;
                case 4: return parcel.zone;
                case 5: return parcel.corners;
                case 6: return parcel.way;
                case 7: return parcel.girth();
                case 8: return stringOf(parcel, parcel.way);
                case 9: return postageFor(parcel, stringOf(parcel, parcel.way));
                default: return reasonAgainst(parcel, parcel.way);
            }
        }

        int tally(int what) {
            switch (what) {
                case 0: return size;
                case 1: return takenParcels();
                case 2: return oddParcels();
                case 3: return takings;
                case 4: return sent;
                case 5: return disputesWon;
                case 6: return disputesLost;
                case 7: return refused;
                default: return undercutBands();
            }
        }

        private static int bandOf(int length) {
            int band = (length - 1) / BAND_WIDTH;
            if (band < 0) {
                return 0;
            }
            return band < BANDS ? band : BANDS - 1;
        }

        private int takenParcels() {
            int taken = 0;
            for (int i = 0; i < size && i < parcels.length; i++) {
                if (isTaken(parcels[i])) {
                    taken++;
                }
            }
            return taken;
        }

        private int oddParcels() {
            int odd = 0;
            for (int i = 0; i < size && i < parcels.length; i++) {
                if (isOdd(parcels[i])) {
                    odd++;
                }
            }
            return odd;
        }

        private int undercutBands() {
            int undercut = 0;
            int greatestBelow = 0;
            for (int band = 0; band < prices.length; band++) {
                if (prices[band] < greatestBelow) {
                    undercut++;
                }
                greatestBelow = Math.max(greatestBelow, prices[band]);
            }
            return undercut;
        }
    }

    /** The states that undo() can restore, the oldest one first. */
    private static final class SavedStates {
        private final Office[] states = new Office[MOST_SAVED];
        int size;

        SavedStates() {
            for (int i = 0; i < states.length; i++) {
                states[i] = new Office();
            }
        }

        void save(Office office) {
            if (size >= states.length) {
                dropOldest();
            }
            states[size].copyFrom(office);
            size++;
        }

        void restoreLatest(Office office) {
            if (size > 0) {
                size--;
                office.copyFrom(states[size]);
            }
        }

        private void dropOldest() {
            Office oldest = states[0];
            for (int i = 1; i < states.length; i++) {
                states[i - 1] = states[i];
            }
            // The dropped one is the row for the state that is saved next.
            states[states.length - 1] = oldest;
            size = states.length - 1;
        }
    }

    /** The buffer, and the reading of it from left to right. */
    private static final class ParcelText {
        private static final int PARTS = 6;
        private static final int NUMBERS = 4;
        private static final int ZONE_PART = 4;
        private static final int WAY_PART = 5;
        private static final int[] MOST_NUMBER = {60, 60, 60, 99};
        private static final char[] NUMBER_END = {'x', 'x', '*', 'z'};

        final int[] codes = new int[MOST_CODES];
        int length;
        /** Of the parcel that is read: three sides, the weight, the zone and the way. */
        private final int[] parts = new int[PARTS];
        private int part;

        boolean hasRoom() {
            return length < codes.length;
        }

        void add(int code) {
            if (hasRoom()) {
                codes[length] = code;
                length++;
            }
        }

        void clear() {
            length = 0;
        }

        int errorPlace() {
            startReading();
            for (int i = 0; i < length && i < codes.length; i++) {
                if (!reads(codes[i])) {
                    return i;
                }
            }
            return length;
        }

        boolean tellsParcels() {
            return errorPlace() == length && isAtParcelEnd();
        }

        void startReading() {
            part = 0;
            parts[0] = 0;
        }

        boolean isAtParcelEnd() {
            return part == PARTS;
        }

        int admitReadTo(Office office) {
            return office.admit(parts[0], parts[1], parts[2], parts[3], parts[4], parts[5]);
        }

        /** False if the code is a syntax error; then nothing more may be read. */
        boolean reads(int code) {
            if (part < NUMBERS) {
                return readsInNumber(code);
            }
            if (part == ZONE_PART) {
                return readsChoice(code - '0', ZONES);
            }
            if (part == WAY_PART) {
                return readsChoice(wayOf(code), DOUBLY_CROSSED + 1);
            }
            if (code != ';') {
                return false;
            }
            startReading();
            return true;
        }

        private boolean readsInNumber(int code) {
            if (code == NUMBER_END[part]) {
                return endsNumber();
            }
            if (code < '0' || code > '9') {
                return false;
            }
            int longer = 10 * parts[part] + (code - '0');
            if (longer < 1 || longer > MOST_NUMBER[part]) {
                return false;
            }
            parts[part] = longer;
            return true;
        }

        // A number without a digit is still 0: no number that is told is.
        private boolean endsNumber() {
            if (parts[part] == 0) {
                return false;
            }
            part++;
            parts[part] = 0;
            return true;
        }

        private boolean readsChoice(int choice, int choices) {
            if (choice < 0 || choice >= choices) {
                return false;
            }
            parts[part] = choice;
            part++;
            return true;
        }

        private static int wayOf(int code) {
            switch (code) {
                case 'r': return ONCE_ROUND;
                case 'c': return CROSSED;
                case 'd': return DOUBLY_CROSSED;
                default: return NONE;
            }
        }
    }

    /** What bundling would cost. Its rows are made once and weighed anew for every call. */
    private static final class Bundling {
        private final Parcel bundle = new Parcel();
        private final int[] alone = new int[MOST_PARCELS];
        private final int[][] together = new int[MOST_PARCELS][MOST_PARCELS];
        private final int[] leastOfSet = new int[1 << MOST_PARCELS];
        private int size;

        int postageOfPair(Office office, Parcel one, Parcel other) {
            if (one.zone != other.zone || !office.isTaken(one) || !office.isTaken(other)) {
                return NONE;
            }
            bundle.becomeBundle(one, other);
            if (bundle.weight > MOST_WEIGHT || !office.isTaken(bundle)) {
                return NONE;
            }
            return office.postageFor(bundle, office.stringOf(bundle, bundle.way));
        }

        void weigh(Office office) {
            size = Math.min(office.size, MOST_PARCELS);
            for (int i = 0; i < size; i++) {
                Parcel parcel = office.parcels[i];
                boolean taken = office.isTaken(parcel);
                alone[i] = taken ? office.postageFor(parcel, office.stringOf(parcel, parcel.way)) : 0;
                for (int j = 0; j < i; j++) {
                    int postage = postageOfPair(office, parcel, office.parcels[j]);
                    together[i][j] = postage;
                    together[j][i] = postage;
                }
            }
        }

        int costUnbundled() {
            int cost = 0;
            for (int i = 0; i < size; i++) {
                cost += alone[i];
            }
            return cost;
        }

        int leastBySets() {
            leastOfSet[0] = 0;
            for (int last = 0; last < size; last++) {
                for (int before = 0; before < (1 << last); before++) {
                    leastOfSet[before | (1 << last)] = leastWithLast(last, before);
                }
            }
            return leastOfSet[(1 << size) - 1];
        }

        private int leastWithLast(int last, int before) {
            int least = leastOfSet[before] + alone[last];
            for (int mate = 0; mate < last; mate++) {
                if (((before >> mate) & 1) == 1 && together[last][mate] != NONE) {
                    least = Math.min(least, leastOfSet[before ^ (1 << mate)] + together[last][mate]);
                }
            }
            return least;
        }

        int leastByTrying() {
            return leastFrom(this, 0, 0);
        }

        // The depth is the parcel's number, of which there are seven.
        private static int leastFrom(Bundling bundling, int parcel, int bundled) {
            if (parcel >= bundling.size) {
                return 0;
            }
            if (((bundled >> parcel) & 1) == 1) {
                return leastFrom(bundling, parcel + 1, bundled);
            }
            int least = bundling.alone[parcel] + leastFrom(bundling, parcel + 1, bundled);
            for (int mate = parcel + 1; mate < bundling.size; mate++) {
                int postage = bundling.together[parcel][mate];
                if (((bundled >> mate) & 1) == 0 && postage != NONE) {
                    least = Math.min(least, postage + leastFrom(bundling, parcel + 1, bundled | (1 << mate)));
                }
            }
            return least;
        }
    }
}
