import java.util.NoSuchElementException;

/**
 * A simulation of an office that permits kites to fly over a field, so that
 * the strings of permitted kites never cross.
 */
public final class KitePermits {
    public static final int NONE = -1;
    public static final int SYNTAX = 1;
    public static final int RANGE = 2;
    public static final int LIMIT = 3;

    private static final int MAX_TEXT = 500;
    private static final int MAX_HOUR = 999999;
    private static final int MAX_ZONES = 4;
    private static final int MAX_WINDS = 6;
    private static final int MAX_DIRECTION = 7;
    private static final int MAX_FORCE = 9;
    private static final int MAX_COLOURS = 6;
    private static final int MAX_QUOTA = 9;
    private static final int MAX_KITES = 16;
    private static final int MAX_STRING = 60;
    private static final int MAX_KNOTS = 9;
    private static final int MAX_NEW_PURSE = 999;
    private static final int MAX_FUND = 999;
    private static final int FULL_PURSE = 99999;
    private static final int FULL_LIFT = 5;
    private static final int MIN_SIDE = 10;
    private static final int MAX_SIDE = 100;
    private static final int MAX_FEE = 20;
    private static final int MAX_FINE = 50;
    private static final int MAX_PERMITS = 30;
    private static final int MAX_DURATION = 24;
    private static final int MAX_COUNT = 48;
    private static final int MAX_COMMANDS = 20;
    private static final int MAX_UNDO = 8;
    private static final int MAX_FORECAST = 100;
    private static final int SEARCHED_HOURS = 60;
    private static final int KNOT_PRICE = 2;
    private static final int SNAPSHOT_SLOTS = 2;

    private static final int GROUNDED = 0;
    private static final int FLYING = 1;
    private static final int TANGLED = 2;

    private final Office office;
    private final Office spare;
    private final History history;
    private final Office[] snapshots;
    private final boolean[] isSaved;
    private final InputText input;
    private final Script script;
    private final OutputText output;

    public KitePermits() {
        office = firstOffice();
        spare = new Office();
        history = new History();
        snapshots = new Office[SNAPSHOT_SLOTS];
        for (int slot = 0; slot < SNAPSHOT_SLOTS; slot++) {
            snapshots[slot] = new Office();
        }
        isSaved = new boolean[SNAPSHOT_SLOTS];
        input = new InputText();
        script = new Script();
        output = new OutputText();
    }

    private static Office firstOffice() {
        Office first = new Office();
        first.field.width = 40;
        first.field.height = 30;
        first.field.fee = 2;
        first.field.fine = 10;
        first.field.openZone();
        first.field.addWind(2, 3);
        first.field.addWind(0, 5);
        first.field.openZone();
        first.field.addWind(6, 4);
        first.field.addColour(2);
        first.field.addColour(1);
        first.enterKite(5, 10, 10, 0, 0, 50);
        first.enterKite(15, 8, 10, 0, 1, 40);
        first.enterKite(34, 10, 15, 1, 1, 30);
        first.enterKite(22, 10, 20, 0, 0, 0);
        return first;
    }

    // ---- input

    public int append(int a, int b, int c, int d, int e) throws IllegalStateException {
        if (!input.hasRoomForRow()) {
            throw new IllegalStateException("the input buffer is full");
        }
        input.putFourBytes(a);
        input.putFourBytes(b);
        input.putFourBytes(c);
        input.putFourBytes(d);
        input.putFourBytes(e);
        return input.length;
    }

    public int truncate(int length) throws IllegalArgumentException {
        requireBetween(length, 0, input.length);
        input.length = length;
        return length;
    }

    public int errorCode() {
        return input.faultCode;
    }

    public int errorPosition() {
        return input.faultPosition;
    }

    // ---- changes

    public int loadSetup() throws IllegalArgumentException {
        Setup.readInto(spare, input);
        input.length = 0;
        if (input.hasFault()) {
            throw new IllegalArgumentException("the setup has an error");
        }
        history.remember(office);
        office.copyFrom(spare);
        return office.fleet.count;
    }

    public int runScript() throws IllegalArgumentException {
        script.readFrom(input);
        input.length = 0;
        if (input.hasFault()) {
            throw new IllegalArgumentException("the script has an error");
        }
        history.remember(office);
        int executed = 0;
        while (executed < script.count && isExecutable(executed)) {
            execute(executed);
            executed++;
        }
        return executed;
    }

    /** Tells whether the method of a command of the script would return normally. */
    private boolean isExecutable(int index) {
        int command = script.command[index];
        int kite = script.first[index];
        if (command == Script.HOURS) {
            return true;
        }
        if (!office.hasKite(kite)) {
            return false;
        }
        switch (command) {
            case Script.LAUNCH:
                return office.isLaunchable(kite);
            case Script.LAND:
                return office.fleet.state[kite] == FLYING;
            case Script.PERMIT:
                return office.refusalReason(kite, script.second[index], script.third[index]) == 0;
            case Script.TIE:
                return office.fleet.state[kite] == GROUNDED;
            case Script.REPAIR:
                return office.isRepairable(kite);
            default:
                return true;
        }
    }

    private void execute(int index) {
        int first = script.first[index];
        int second = script.second[index];
        switch (script.command[index]) {
            case Script.LAUNCH:
                office.sendUp(first);
                break;
            case Script.LAND:
                office.bringDown(first);
                break;
            case Script.HOURS:
                office.letHoursPass(first);
                break;
            case Script.PERMIT:
                office.grant(first, second, script.third[index]);
                break;
            case Script.CANCEL:
                office.permits.removeOf(first);
                break;
            case Script.TIE:
                office.retie(first, second);
                break;
            case Script.REPAIR:
                office.mend(first);
                break;
            default:
                office.putCoins(first, second);
                break;
        }
    }

    public int addKite(int x, int y, int length, int colour, int knots, int coins)
            throws IndexOutOfBoundsException, IllegalArgumentException, IllegalStateException {
        requireColour(colour);
        requireBetween(x, 0, office.field.width - 1);
        requireBetween(y, 0, office.field.height - 1);
        requireBetween(length, 1, MAX_STRING);
        requireBetween(knots, 0, MAX_KNOTS);
        requireBetween(coins, 0, MAX_NEW_PURSE);
        if (office.fleet.count >= MAX_KITES) {
            throw new IllegalStateException("there are 16 kites");
        }
        history.remember(office);
        return office.enterKite(x, y, length, colour, knots, coins);
    }

    public int launch(int kite) throws IndexOutOfBoundsException, IllegalStateException {
        requireKite(kite);
        if (!office.isLaunchable(kite)) {
            throw new IllegalStateException("the kite cannot be launched");
        }
        history.remember(office);
        office.sendUp(kite);
        return office.reachAt(kite, office.now);
    }

    public int land(int kite) throws IndexOutOfBoundsException, IllegalStateException {
        requireKite(kite);
        requireState(kite, FLYING);
        history.remember(office);
        office.bringDown(kite);
        return office.fleet.countInState(FLYING);
    }

    public int passHours(int count) throws IllegalArgumentException {
        requireBetween(count, 1, MAX_COUNT);
        history.remember(office);
        return office.letHoursPass(count);
    }

    public int permit(int kite, int start, int duration)
            throws IndexOutOfBoundsException, IllegalArgumentException, IllegalStateException {
        requirePermitArguments(kite, start, duration);
        if (office.refusalReason(kite, start, duration) != 0) {
            throw new IllegalStateException("the permit is refused");
        }
        history.remember(office);
        office.grant(kite, start, duration);
        return office.permits.count;
    }

    public int cancelPermits(int kite) throws IndexOutOfBoundsException {
        requireKite(kite);
        history.remember(office);
        return office.permits.removeOf(kite);
    }

    public int tieKnots(int kite, int knots)
            throws IndexOutOfBoundsException, IllegalArgumentException, IllegalStateException {
        requireKite(kite);
        requireBetween(knots, 0, MAX_KNOTS);
        requireState(kite, GROUNDED);
        history.remember(office);
        int before = office.fleet.knots[kite];
        office.retie(kite, knots);
        return before;
    }

    public int repair(int kite) throws IndexOutOfBoundsException, IllegalStateException {
        requireKite(kite);
        if (!office.isRepairable(kite)) {
            throw new IllegalStateException("the kite cannot be repaired");
        }
        history.remember(office);
        office.mend(kite);
        return office.repairPrice(kite);
    }

    public int fund(int kite, int coins) throws IndexOutOfBoundsException, IllegalArgumentException {
        requireKite(kite);
        requireBetween(coins, 1, MAX_FUND);
        history.remember(office);
        office.putCoins(kite, coins);
        return office.fleet.purse[kite];
    }

    public int undo() throws NoSuchElementException {
        if (history.count < 1) {
            throw new NoSuchElementException("no change can be undone");
        }
        history.bringBack(office);
        return history.count;
    }

    public void saveSnapshot(int slot) throws IllegalArgumentException {
        requireBetween(slot, 0, SNAPSHOT_SLOTS - 1);
        snapshots[slot].copyFrom(office);
        isSaved[slot] = true;
    }

    public int restoreSnapshot(int slot) throws IllegalArgumentException, NoSuchElementException {
        requireBetween(slot, 0, SNAPSHOT_SLOTS - 1);
        if (!isSaved[slot]) {
            throw new NoSuchElementException("the slot is empty");
        }
        history.remember(office);
        office.copyFrom(snapshots[slot]);
        return office.now;
    }

    // ---- field, winds and colours

    public int hour() {
        return office.now;
    }

    public int width() {
        return office.field.width;
    }

    public int height() {
        return office.field.height;
    }

    public int fee() {
        return office.field.fee;
    }

    public int fine() {
        return office.field.fine;
    }

    public int zoneCount() {
        return office.field.zoneCount;
    }

    public int windDirection(int zone, int hour) throws IndexOutOfBoundsException, IllegalArgumentException {
        requireZone(zone);
        requireHour(hour);
        return office.field.direction[office.field.windIndex(zone, hour)];
    }

    public int windForce(int zone, int hour) throws IndexOutOfBoundsException, IllegalArgumentException {
        requireZone(zone);
        requireHour(hour);
        return office.field.force[office.field.windIndex(zone, hour)];
    }

    public int colourCount() {
        return office.field.colourCount;
    }

    public int quota(int colour) throws IndexOutOfBoundsException {
        requireColour(colour);
        return office.field.quota[colour];
    }

    public int quotaUsed(int colour, int hour) throws IndexOutOfBoundsException, IllegalArgumentException {
        requireColour(colour);
        requireHour(hour);
        return office.countCovering(colour, hour);
    }

    // ---- kites

    public int kiteCount() {
        return office.fleet.count;
    }

    public int anchorX(int kite) throws IndexOutOfBoundsException {
        requireKite(kite);
        return office.fleet.x[kite];
    }

    public int anchorY(int kite) throws IndexOutOfBoundsException {
        requireKite(kite);
        return office.fleet.y[kite];
    }

    public int stringLength(int kite) throws IndexOutOfBoundsException {
        requireKite(kite);
        return office.fleet.length[kite];
    }

    public int colourOf(int kite) throws IndexOutOfBoundsException {
        requireKite(kite);
        return office.fleet.colour[kite];
    }

    public int knots(int kite) throws IndexOutOfBoundsException {
        requireKite(kite);
        return office.fleet.knots[kite];
    }

    public int purse(int kite) throws IndexOutOfBoundsException {
        requireKite(kite);
        return office.fleet.purse[kite];
    }

    public int stateOf(int kite) throws IndexOutOfBoundsException {
        requireKite(kite);
        return office.fleet.state[kite];
    }

    public int zoneOf(int kite) throws IndexOutOfBoundsException {
        requireKite(kite);
        return office.fleet.zone[kite];
    }

    public int tangles(int kite) throws IndexOutOfBoundsException {
        requireKite(kite);
        return office.fleet.tangles[kite];
    }

    public int reach(int kite, int hour) throws IndexOutOfBoundsException, IllegalArgumentException {
        requireKite(kite);
        requireHour(hour);
        return office.reachAt(kite, hour);
    }

    public int endX(int kite, int hour) throws IndexOutOfBoundsException, IllegalArgumentException {
        requireKite(kite);
        requireHour(hour);
        return office.endXIn(kite, office.reachAt(kite, hour), office.windAt(kite, hour));
    }

    public int endY(int kite, int hour) throws IndexOutOfBoundsException, IllegalArgumentException {
        requireKite(kite);
        requireHour(hour);
        return office.endYIn(kite, office.reachAt(kite, hour), office.windAt(kite, hour));
    }

    public boolean canFly(int kite, int hour) throws IndexOutOfBoundsException, IllegalArgumentException {
        requireKite(kite);
        requireHour(hour);
        return office.fliesAt(kite, hour);
    }

    public boolean doCross(int kite, int other, int hour) throws IndexOutOfBoundsException, IllegalArgumentException {
        requireKite(kite);
        requireKite(other);
        requireDifferent(kite, other);
        requireHour(hour);
        return office.stringsCross(kite, other, hour);
    }

    // ---- permits

    public int permitCount() {
        return office.permits.count;
    }

    public int permitKite(int permit) throws IndexOutOfBoundsException {
        requirePermit(permit);
        return office.permits.kite[permit];
    }

    public int permitStart(int permit) throws IndexOutOfBoundsException {
        requirePermit(permit);
        return office.permits.start[permit];
    }

    public int permitDuration(int permit) throws IndexOutOfBoundsException {
        requirePermit(permit);
        return office.permits.duration[permit];
    }

    public boolean hasPermit(int kite, int hour) throws IndexOutOfBoundsException, IllegalArgumentException {
        requireKite(kite);
        requireHour(hour);
        return office.permits.coverAny(kite, hour, hour + 1);
    }

    // ---- questions; nothing changes

    public int whyNotPermit(int kite, int start, int duration)
            throws IndexOutOfBoundsException, IllegalArgumentException {
        requirePermitArguments(kite, start, duration);
        return office.refusalReason(kite, start, duration);
    }

    public int kiteInTheWay(int kite, int start, int duration)
            throws IndexOutOfBoundsException, IllegalArgumentException {
        requirePermitArguments(kite, start, duration);
        return office.firstCrossedKite(kite, start, start + duration);
    }

    public int earliestStart(int kite, int duration) throws IndexOutOfBoundsException, IllegalArgumentException {
        requireKite(kite);
        requireBetween(duration, 1, MAX_DURATION);
        for (int start = office.now; start <= office.now + SEARCHED_HOURS; start++) {
            if (office.refusalReason(kite, start, duration) == 0) {
                return start;
            }
        }
        return NONE;
    }

    public int bestKnots(int kite, int hour) throws IndexOutOfBoundsException, IllegalArgumentException {
        requireKite(kite);
        requireHour(hour);
        int wind = office.windAt(kite, hour);
        int best = NONE;
        int bestReach = 0;
        for (int tried = 0; tried <= MAX_KNOTS; tried++) {
            int triedReach = office.reachIn(kite, tried, wind);
            if (triedReach > bestReach && office.fliesIn(kite, triedReach, wind)) {
                best = tried;
                bestReach = triedReach;
            }
        }
        return best;
    }

    public int guiltyKite(int kite, int other)
            throws IndexOutOfBoundsException, IllegalArgumentException, IllegalStateException {
        requireKite(kite);
        requireKite(other);
        requireDifferent(kite, other);
        requireState(kite, FLYING);
        requireState(other, FLYING);
        return office.guiltyOf(kite, other);
    }

    public int verdictsIn(int hours) throws IllegalArgumentException {
        requireBetween(hours, 0, MAX_FORECAST);
        spare.copyFrom(office);
        return spare.letHoursPass(hours);
    }

    // ---- checks and output

    public int officeCoins() {
        return office.coins;
    }

    public int coinError() {
        return office.coinsBroughtIn - office.fleet.pursesTogether() - office.coins;
    }

    public int permittedCrossings() {
        return office.countPermittedCrossings();
    }

    public double meanReach() {
        int flying = office.fleet.countInState(FLYING);
        if (flying < 1) {
            return 0.0;
        }
        return (double) office.flyingReach() / (double) flying;
    }

    public float tangledShare() {
        if (office.fleet.count < 1) {
            return 0.0f;
        }
        return (float) office.fleet.countInState(TANGLED) / (float) office.fleet.count;
    }

    public int writePermits() {
        output.write(office.permits);
        return output.length;
    }

    public int outputByte(int index) {
        if (index < 0 || index >= output.length) {
            return NONE;
        }
        return output.bytes[index];
    }

    // ---- tests of arguments

    private static void requireBetween(int value, int low, int high) {
        if (value < low || value > high) {
            throw new IllegalArgumentException("an argument is out of range");
        }
    }

    private static void requireHour(int hour) {
        if (hour < 0 || hour > MAX_HOUR) {
            throw new IllegalArgumentException("the hour is out of range");
        }
    }

    private static void requireDifferent(int kite, int other) {
        if (kite == other) {
            throw new IllegalArgumentException("both kites are the same");
        }
    }

    private void requireKite(int kite) {
        if (!office.hasKite(kite)) {
            throw new IndexOutOfBoundsException("the kite does not exist");
        }
    }

    private void requireState(int kite, int state) {
        if (office.fleet.state[kite] != state) {
            throw new IllegalStateException("the kite is in another state");
        }
    }

    private void requireZone(int zone) {
        if (zone < 0 || zone >= office.field.zoneCount) {
            throw new IndexOutOfBoundsException("the zone does not exist");
        }
    }

    private void requireColour(int colour) {
        if (colour < 0 || colour >= office.field.colourCount) {
            throw new IndexOutOfBoundsException("the colour does not exist");
        }
    }

    private void requirePermit(int permit) {
        if (permit < 0 || permit >= office.permits.count) {
            throw new IndexOutOfBoundsException("the permit does not exist");
        }
    }

    private void requirePermitArguments(int kite, int start, int duration) {
        requireKite(kite);
        requireHour(start);
        requireBetween(duration, 1, MAX_DURATION);
    }

    /** The field with its winds and colours, and the office's two tariffs. */
    private static final class Field {
        static final int[] STEP_X = {0, 1, 1, 1, 0, -1, -1, -1};
        static final int[] STEP_Y = {1, 1, 0, -1, -1, -1, 0, 1};

        int width;
        int height;
        int fee;
        int fine;
        int zoneCount;
        final int[] windCount = new int[MAX_ZONES];
        // The winds of a zone stand together, MAX_WINDS places for each zone.
        final int[] direction = new int[MAX_ZONES * MAX_WINDS];
        final int[] force = new int[MAX_ZONES * MAX_WINDS];
        int colourCount;
        final int[] quota = new int[MAX_COLOURS];

        void copyFrom(Field other) {
            width = other.width;
            height = other.height;
            fee = other.fee;
            fine = other.fine;
            zoneCount = other.zoneCount;
            System.arraycopy(other.windCount, 0, windCount, 0, MAX_ZONES);
            System.arraycopy(other.direction, 0, direction, 0, MAX_ZONES * MAX_WINDS);
            System.arraycopy(other.force, 0, force, 0, MAX_ZONES * MAX_WINDS);
            colourCount = other.colourCount;
            System.arraycopy(other.quota, 0, quota, 0, MAX_COLOURS);
        }

        void openZone() {
            if (zoneCount < MAX_ZONES) {
                windCount[zoneCount] = 0;
                zoneCount++;
            }
        }

        /** Adds a wind to the zone that was opened last. */
        void addWind(int windDirection, int windForce) {
            int zone = zoneCount - 1;
            if (zone >= 0 && windCount[zone] < MAX_WINDS) {
                int wind = zone * MAX_WINDS + windCount[zone];
                direction[wind] = windDirection;
                force[wind] = windForce;
                windCount[zone]++;
            }
        }

        void addColour(int colourQuota) {
            if (colourCount < MAX_COLOURS) {
                quota[colourCount] = colourQuota;
                colourCount++;
            }
        }

        int zoneAt(int x) {
            return width < 1 ? 0 : x * zoneCount / width;
        }

        int windIndex(int zone, int hour) {
            int first = zone * MAX_WINDS;
            return windCount[zone] < 1 ? first : first + hour % windCount[zone];
        }

        boolean contains(int x, int y) {
            return x >= 0 && x < width && y >= 0 && y < height;
        }
    }

    /** The kites, one place in each row for each kite. */
    private static final class Fleet {
        int count;
        int launches;
        final int[] x = new int[MAX_KITES];
        final int[] y = new int[MAX_KITES];
        final int[] zone = new int[MAX_KITES];
        final int[] length = new int[MAX_KITES];
        final int[] colour = new int[MAX_KITES];
        final int[] knots = new int[MAX_KITES];
        final int[] purse = new int[MAX_KITES];
        final int[] state = new int[MAX_KITES];
        final int[] launchNumber = new int[MAX_KITES];
        final int[] tangles = new int[MAX_KITES];

        void copyFrom(Fleet other) {
            count = other.count;
            launches = other.launches;
            System.arraycopy(other.x, 0, x, 0, MAX_KITES);
            System.arraycopy(other.y, 0, y, 0, MAX_KITES);
            System.arraycopy(other.zone, 0, zone, 0, MAX_KITES);
            System.arraycopy(other.length, 0, length, 0, MAX_KITES);
            System.arraycopy(other.colour, 0, colour, 0, MAX_KITES);
            System.arraycopy(other.knots, 0, knots, 0, MAX_KITES);
            System.arraycopy(other.purse, 0, purse, 0, MAX_KITES);
            System.arraycopy(other.state, 0, state, 0, MAX_KITES);
            System.arraycopy(other.launchNumber, 0, launchNumber, 0, MAX_KITES);
            System.arraycopy(other.tangles, 0, tangles, 0, MAX_KITES);
        }

        int countInState(int wanted) {
            int found = 0;
            for (int kite = 0; kite < count; kite++) {
                if (state[kite] == wanted) {
                    found++;
                }
            }
            return found;
        }

        int pursesTogether() {
            int sum = 0;
            for (int kite = 0; kite < count; kite++) {
                sum += purse[kite];
            }
            return sum;
        }
    }

    /** The permits in the order in which they were granted. */
    private static final class PermitList {
        int count;
        final int[] kite = new int[MAX_PERMITS];
        final int[] start = new int[MAX_PERMITS];
        final int[] duration = new int[MAX_PERMITS];

        void copyFrom(PermitList other) {
            count = other.count;
            System.arraycopy(other.kite, 0, kite, 0, MAX_PERMITS);
            System.arraycopy(other.start, 0, start, 0, MAX_PERMITS);
            System.arraycopy(other.duration, 0, duration, 0, MAX_PERMITS);
        }

        void add(int newKite, int newStart, int newDuration) {
            if (count < MAX_PERMITS) {
                kite[count] = newKite;
                start[count] = newStart;
                duration[count] = newDuration;
                count++;
            }
        }

        /** The first hour after a permit. */
        int endOf(int permit) {
            return start[permit] + duration[permit];
        }

        boolean covers(int permit, int hour) {
            return start[permit] <= hour && hour < endOf(permit);
        }

        /** Tells whether a permit of a kite covers one of the hours from begin on and before end. */
        boolean coverAny(int wantedKite, int begin, int end) {
            for (int permit = 0; permit < count; permit++) {
                if (kite[permit] == wantedKite && start[permit] < end && begin < endOf(permit)) {
                    return true;
                }
            }
            return false;
        }

        int removeOf(int unwantedKite) {
            int kept = 0;
            for (int permit = 0; permit < count; permit++) {
                if (kite[permit] != unwantedKite) {
                    move(permit, kept);
                    kept++;
                }
            }
            int removed = count - kept;
            count = kept;
            return removed;
        }

        void removeEnded(int now) {
            int kept = 0;
            for (int permit = 0; permit < count; permit++) {
                if (endOf(permit) > now) {
                    move(permit, kept);
                    kept++;
                }
            }
            count = kept;
        }

        private void move(int from, int to) {
            kite[to] = kite[from];
            start[to] = start[from];
            duration[to] = duration[from];
        }
    }

    /** The whole state that undo and the snapshots concern, and what the document lets happen to it. */
    private static final class Office {
        final Field field = new Field();
        final Fleet fleet = new Fleet();
        final PermitList permits = new PermitList();
        int now;
        int coins;
        int coinsBroughtIn;
        // Used within one passing hour only, so no copy takes it along.
        final boolean[] isCaught = new boolean[MAX_KITES];

        void copyFrom(Office other) {
            field.copyFrom(other.field);
            fleet.copyFrom(other.fleet);
            permits.copyFrom(other.permits);
            now = other.now;
            coins = other.coins;
            coinsBroughtIn = other.coinsBroughtIn;
        }

        void clear() {
            field.zoneCount = 0;
            field.colourCount = 0;
            fleet.count = 0;
            fleet.launches = 0;
            permits.count = 0;
            now = 0;
            coins = 0;
            coinsBroughtIn = 0;
        }

        boolean hasKite(int kite) {
            return kite >= 0 && kite < fleet.count;
        }

        int enterKite(int x, int y, int length, int colour, int knots, int purse) {
            int kite = fleet.count;
            if (kite >= MAX_KITES) {
                return NONE;
            }
            fleet.x[kite] = x;
            fleet.y[kite] = y;
            fleet.zone[kite] = field.zoneAt(x);
            fleet.length[kite] = length;
            fleet.colour[kite] = colour;
            fleet.knots[kite] = knots;
            fleet.purse[kite] = purse;
            fleet.state[kite] = GROUNDED;
            fleet.launchNumber[kite] = 0;
            fleet.tangles[kite] = 0;
            fleet.count++;
            coinsBroughtIn += purse;
            return kite;
        }

        // -- strings

        /** The place of the wind that a kite has in an hour, among the winds of the field. */
        int windAt(int kite, int hour) {
            return field.windIndex(fleet.zone[kite], hour);
        }

        int reachIn(int kite, int knots, int wind) {
            int lift = field.force[wind] - knots;
            if (lift < 1) {
                return 0;
            }
            return fleet.length[kite] * Math.min(lift, FULL_LIFT) / FULL_LIFT;
        }

        int endXIn(int kite, int reach, int wind) {
            return fleet.x[kite] + reach * Field.STEP_X[field.direction[wind]];
        }

        int endYIn(int kite, int reach, int wind) {
            return fleet.y[kite] + reach * Field.STEP_Y[field.direction[wind]];
        }

        boolean fliesIn(int kite, int reach, int wind) {
            return reach >= 1 && field.contains(endXIn(kite, reach, wind), endYIn(kite, reach, wind));
        }

        int reachAt(int kite, int hour) {
            return reachIn(kite, fleet.knots[kite], windAt(kite, hour));
        }

        boolean fliesAt(int kite, int hour) {
            int wind = windAt(kite, hour);
            return fliesIn(kite, reachIn(kite, fleet.knots[kite], wind), wind);
        }

        /**
         * Tells whether two strings have a common point: their boxes must meet, and neither string
         * may lie wholly on one side of the other one's line.
         */
        boolean stringsCross(int kite, int other, int hour) {
            int wind = windAt(kite, hour);
            int reach = reachIn(kite, fleet.knots[kite], wind);
            int ax = fleet.x[kite];
            int ay = fleet.y[kite];
            int bx = endXIn(kite, reach, wind);
            int by = endYIn(kite, reach, wind);
            int otherWind = windAt(other, hour);
            int otherReach = reachIn(other, fleet.knots[other], otherWind);
            int cx = fleet.x[other];
            int cy = fleet.y[other];
            int dx = endXIn(other, otherReach, otherWind);
            int dy = endYIn(other, otherReach, otherWind);
            if (!rangesMeet(ax, bx, cx, dx) || !rangesMeet(ay, by, cy, dy)) {
                return false;
            }
            return !onOneSide(sideOf(ax, ay, bx, by, cx, cy), sideOf(ax, ay, bx, by, dx, dy))
                    && !onOneSide(sideOf(cx, cy, dx, dy, ax, ay), sideOf(cx, cy, dx, dy, bx, by));
        }

        private static boolean rangesMeet(int a, int b, int c, int d) {
            return Math.min(a, b) <= Math.max(c, d) && Math.min(c, d) <= Math.max(a, b);
        }

        /** Positive, negative or 0: the side of the line from a to b on which p lies. */
        private static int sideOf(int ax, int ay, int bx, int by, int px, int py) {
            return (bx - ax) * (py - ay) - (by - ay) * (px - ax);
        }

        private static boolean onOneSide(int side, int otherSide) {
            return side > 0 && otherSide > 0 || side < 0 && otherSide < 0;
        }

        // -- permits

        int countCovering(int colour, int hour) {
            int found = 0;
            for (int permit = 0; permit < permits.count; permit++) {
                if (fleet.colour[permits.kite[permit]] == colour && permits.covers(permit, hour)) {
                    found++;
                }
            }
            return found;
        }

        /** The reason 1 to 7 for which a permit is refused, or 0. */
        int refusalReason(int kite, int start, int duration) {
            int end = start + duration;
            if (start < now) {
                return 1;
            }
            if (permits.count >= MAX_PERMITS) {
                return 2;
            }
            if (permits.coverAny(kite, start, end)) {
                return 3;
            }
            if (isQuotaUsedUp(fleet.colour[kite], start, end)) {
                return 4;
            }
            if (!fliesAllHours(kite, start, end)) {
                return 5;
            }
            if (firstCrossedKite(kite, start, end) != NONE) {
                return 6;
            }
            return fleet.purse[kite] < field.fee * duration ? 7 : 0;
        }

        private boolean isQuotaUsedUp(int colour, int start, int end) {
            for (int hour = start; hour < end; hour++) {
                if (countCovering(colour, hour) >= field.quota[colour]) {
                    return true;
                }
            }
            return false;
        }

        private boolean fliesAllHours(int kite, int start, int end) {
            for (int hour = start; hour < end; hour++) {
                if (!fliesAt(kite, hour)) {
                    return false;
                }
            }
            return true;
        }

        /** The other kite with the smallest index that is crossed while it has a permit, or NONE. */
        int firstCrossedKite(int kite, int start, int end) {
            int found = NONE;
            for (int permit = 0; permit < permits.count; permit++) {
                int other = permits.kite[permit];
                boolean isFirst = found == NONE || other < found;
                if (other != kite && isFirst && countCrossings(kite, permit, start, end) > 0) {
                    found = other;
                }
            }
            return found;
        }

        /** The number of hours from start on and before end in which a kite crosses the string of a permit. */
        private int countCrossings(int kite, int permit, int start, int end) {
            int crossings = 0;
            int last = Math.min(end, permits.endOf(permit));
            for (int hour = Math.max(start, permits.start[permit]); hour < last; hour++) {
                if (stringsCross(kite, permits.kite[permit], hour)) {
                    crossings++;
                }
            }
            return crossings;
        }

        int countPermittedCrossings() {
            int crossings = 0;
            for (int permit = 0; permit < permits.count; permit++) {
                int kite = permits.kite[permit];
                int begin = Math.max(now, permits.start[permit]);
                for (int later = permit + 1; later < permits.count; later++) {
                    if (permits.kite[later] != kite) {
                        crossings += countCrossings(kite, later, begin, permits.endOf(permit));
                    }
                }
            }
            return crossings;
        }

        void grant(int kite, int start, int duration) {
            payOffice(kite, field.fee * duration);
            permits.add(kite, start, duration);
        }

        private void payOffice(int kite, int price) {
            fleet.purse[kite] -= price;
            coins += price;
        }

        // -- flying

        boolean isLaunchable(int kite) {
            return fleet.state[kite] == GROUNDED && fliesAt(kite, now);
        }

        void sendUp(int kite) {
            fleet.state[kite] = FLYING;
            fleet.launches++;
            fleet.launchNumber[kite] = fleet.launches;
        }

        void bringDown(int kite) {
            fleet.state[kite] = GROUNDED;
        }

        int flyingReach() {
            int sum = 0;
            for (int kite = 0; kite < fleet.count; kite++) {
                if (fleet.state[kite] == FLYING) {
                    sum += reachAt(kite, now);
                }
            }
            return sum;
        }

        /** Lets hours pass and counts their verdicts. */
        int letHoursPass(int hours) {
            int verdicts = 0;
            for (int passed = 0; passed < hours; passed++) {
                now++;
                permits.removeEnded(now);
                groundBecalmedKites();
                verdicts += judgeCrossings();
                tangleCaughtKites();
            }
            return verdicts;
        }

        private void groundBecalmedKites() {
            for (int kite = 0; kite < fleet.count; kite++) {
                if (fleet.state[kite] == FLYING && !fliesAt(kite, now)) {
                    fleet.state[kite] = GROUNDED;
                }
            }
        }

        private int judgeCrossings() {
            int verdicts = 0;
            for (int kite = 0; kite < fleet.count; kite++) {
                for (int other = kite + 1; other < fleet.count; other++) {
                    boolean bothFly = fleet.state[kite] == FLYING && fleet.state[other] == FLYING;
                    if (bothFly && stringsCross(kite, other, now)) {
                        giveVerdict(kite, other);
                        verdicts++;
                    }
                }
            }
            return verdicts;
        }

        private void giveVerdict(int kite, int other) {
            int guilty = guiltyOf(kite, other);
            int innocent = guilty == kite ? other : kite;
            int payment = Math.min(field.fine, fleet.purse[guilty]);
            fleet.purse[guilty] -= payment;
            fleet.purse[innocent] += payment;
            fleet.tangles[kite]++;
            fleet.tangles[other]++;
            isCaught[kite] = true;
            isCaught[other] = true;
        }

        int guiltyOf(int kite, int other) {
            boolean isPermitted = permits.coverAny(kite, now, now + 1);
            boolean isOtherPermitted = permits.coverAny(other, now, now + 1);
            if (isPermitted != isOtherPermitted) {
                return isPermitted ? other : kite;
            }
            return fleet.launchNumber[kite] > fleet.launchNumber[other] ? kite : other;
        }

        private void tangleCaughtKites() {
            for (int kite = 0; kite < fleet.count; kite++) {
                if (isCaught[kite]) {
                    fleet.state[kite] = TANGLED;
                    isCaught[kite] = false;
                }
            }
        }

        // -- care of kites

        void retie(int kite, int knots) {
            fleet.knots[kite] = knots;
            permits.removeOf(kite);
        }

        int repairPrice(int kite) {
            return KNOT_PRICE * fleet.knots[kite];
        }

        boolean isRepairable(int kite) {
            return fleet.state[kite] == TANGLED && fleet.purse[kite] >= repairPrice(kite);
        }

        void mend(int kite) {
            payOffice(kite, repairPrice(kite));
            fleet.state[kite] = GROUNDED;
        }

        void putCoins(int kite, int offered) {
            // Fines can have filled the purse beyond the mark; then there is no room at all.
            int room = Math.max(0, FULL_PURSE - fleet.purse[kite]);
            int put = Math.min(offered, room);
            fleet.purse[kite] += put;
            coinsBroughtIn += put;
        }
    }

    /** The states before the latest changes, in a ring. */
    private static final class History {
        final Office[] past = new Office[MAX_UNDO];
        int count;
        int next;

        History() {
            for (int place = 0; place < MAX_UNDO; place++) {
                past[place] = new Office();
            }
        }

        void remember(Office office) {
            past[next].copyFrom(office);
            next = (next + 1) % MAX_UNDO;
            count = Math.min(count + 1, MAX_UNDO);
        }

        void bringBack(Office office) {
            next = (next + MAX_UNDO - 1) % MAX_UNDO;
            count--;
            office.copyFrom(past[next]);
        }
    }

    /**
     * The input buffer, and a reader that goes through its tokens. After the first fault the reader
     * stays where it is, and takes nothing more.
     */
    private static final class InputText {
        static final int ROW = 20;
        static final int END = 0;
        static final int WORD = 1;
        static final int NUMBER = 2;
        static final int SEMICOLON = 3;
        static final int STRANGE = 4;
        // Greater than every number that the grammar allows.
        static final int TOO_GREAT = 1000000;

        final int[] bytes = new int[MAX_TEXT];
        int length;
        int faultCode;
        int faultPosition = NONE;
        // The token that is to be taken next.
        int kind;
        int start;
        int end;
        int value;

        boolean hasRoomForRow() {
            return length + ROW <= MAX_TEXT;
        }

        void putFourBytes(int four) {
            for (int shift = 24; shift >= 0; shift -= 8) {
                if (length < MAX_TEXT) {
                    bytes[length] = four >> shift & 255;
                    length++;
                }
            }
        }

        void beginReading() {
            faultCode = 0;
            faultPosition = NONE;
            end = 0;
            readToken();
        }

        boolean hasFault() {
            return faultCode != 0;
        }

        void fail(int code) {
            if (faultCode == 0) {
                faultCode = code;
                faultPosition = start;
            }
        }

        void readToken() {
            start = end;
            while (start < length && bytes[start] == ' ') {
                start++;
            }
            end = start;
            if (start >= length) {
                kind = END;
            } else if (isLetter(bytes[start])) {
                readWord();
            } else if (isDigit(bytes[start])) {
                readNumber();
            } else {
                kind = bytes[start] == ';' ? SEMICOLON : STRANGE;
                end = start + 1;
            }
        }

        private void readWord() {
            kind = WORD;
            while (end < length && isLetter(bytes[end])) {
                end++;
            }
        }

        private void readNumber() {
            kind = NUMBER;
            value = 0;
            while (end < length && isDigit(bytes[end])) {
                value = Math.min(value * 10 + bytes[end] - '0', TOO_GREAT);
                end++;
            }
        }

        private static boolean isLetter(int code) {
            return code >= 'a' && code <= 'z';
        }

        private static boolean isDigit(int code) {
            return code >= '0' && code <= '9';
        }

        boolean isAtEnd() {
            return hasFault() || kind == END;
        }

        boolean isAtNumber() {
            return !hasFault() && kind == NUMBER;
        }

        boolean isAtWord(String word) {
            if (hasFault() || kind != WORD || end - start != word.length()) {
                return false;
            }
            for (int index = 0; index < word.length(); index++) {
                if (bytes[start + index] != word.charAt(index)) {
                    return false;
                }
            }
            return true;
        }

        void takeWord(String word) {
            if (isAtWord(word)) {
                readToken();
            } else {
                fail(SYNTAX);
            }
        }

        void takeSemicolon() {
            if (!hasFault() && kind == SEMICOLON) {
                readToken();
            } else {
                fail(SYNTAX);
            }
        }

        /** Takes a number and answers it; if there is a fault, it answers low and takes nothing. */
        int takeNumber(int low, int high) {
            if (!isAtNumber()) {
                fail(SYNTAX);
                return low;
            }
            if (value < low || value > high) {
                fail(RANGE);
                return low;
            }
            int taken = value;
            readToken();
            return taken;
        }

        void takeEnd() {
            if (!isAtEnd()) {
                fail(SYNTAX);
            }
        }
    }

    /** Reads a setup. */
    private static final class Setup {
        /** Fills an office with the setup in a text; after a fault the office is good for nothing. */
        static void readInto(Office office, InputText text) {
            office.clear();
            text.beginReading();
            readField(office.field, text);
            readZones(office.field, text);
            readColours(office.field, text);
            readKites(office, text);
            text.takeEnd();
        }

        private static void readField(Field field, InputText text) {
            text.takeWord("field");
            field.width = text.takeNumber(MIN_SIDE, MAX_SIDE);
            field.height = text.takeNumber(MIN_SIDE, MAX_SIDE);
            field.fee = text.takeNumber(0, MAX_FEE);
            field.fine = text.takeNumber(0, MAX_FINE);
            text.takeSemicolon();
        }

        private static void readZones(Field field, InputText text) {
            for (int zone = 0; zone < MAX_ZONES && (zone == 0 || text.isAtWord("zone")); zone++) {
                text.takeWord("zone");
                field.openZone();
                readWinds(field, text);
                text.takeSemicolon();
            }
            if (text.isAtWord("zone")) {
                text.fail(LIMIT);
            }
        }

        private static void readWinds(Field field, InputText text) {
            for (int wind = 0; wind < MAX_WINDS && (wind == 0 || text.isAtNumber()); wind++) {
                int direction = text.takeNumber(0, MAX_DIRECTION);
                int force = text.takeNumber(0, MAX_FORCE);
                field.addWind(direction, force);
            }
            if (text.isAtNumber()) {
                text.fail(text.value > MAX_DIRECTION ? RANGE : LIMIT);
            }
        }

        private static void readColours(Field field, InputText text) {
            for (int colour = 0; colour < MAX_COLOURS && (colour == 0 || text.isAtWord("colour")); colour++) {
                text.takeWord("colour");
                field.addColour(text.takeNumber(0, MAX_QUOTA));
                text.takeSemicolon();
            }
            if (text.isAtWord("colour")) {
                text.fail(LIMIT);
            }
        }

        private static void readKites(Office office, InputText text) {
            for (int kite = 0; kite < MAX_KITES && text.isAtWord("kite"); kite++) {
                text.takeWord("kite");
                int x = text.takeNumber(0, office.field.width - 1);
                int y = text.takeNumber(0, office.field.height - 1);
                int length = text.takeNumber(1, MAX_STRING);
                int colour = text.takeNumber(0, office.field.colourCount - 1);
                int knots = text.takeNumber(0, MAX_KNOTS);
                int purse = text.takeNumber(0, MAX_NEW_PURSE);
                text.takeSemicolon();
                office.enterKite(x, y, length, colour, knots, purse);
            }
            if (text.isAtWord("kite")) {
                text.fail(LIMIT);
            }
        }
    }

    /** The commands of a script with their numbers. */
    private static final class Script {
        static final int UNKNOWN = 0;
        static final int LAUNCH = 1;
        static final int LAND = 2;
        static final int HOURS = 3;
        static final int PERMIT = 4;
        static final int CANCEL = 5;
        static final int TIE = 6;
        static final int REPAIR = 7;
        static final int PAY = 8;

        int count;
        final int[] command = new int[MAX_COMMANDS];
        final int[] first = new int[MAX_COMMANDS];
        final int[] second = new int[MAX_COMMANDS];
        final int[] third = new int[MAX_COMMANDS];

        void readFrom(InputText text) {
            text.beginReading();
            count = 0;
            while (count < MAX_COMMANDS && !text.isAtEnd()) {
                readCommand(text);
                count++;
            }
            if (!text.isAtEnd()) {
                text.fail(commandAt(text) == UNKNOWN ? SYNTAX : LIMIT);
            }
        }

        private void readCommand(InputText text) {
            int read = commandAt(text);
            if (read == UNKNOWN) {
                text.fail(SYNTAX);
                return;
            }
            text.readToken();
            command[count] = read;
            first[count] = read == HOURS ? text.takeNumber(1, MAX_COUNT) : text.takeNumber(0, MAX_KITES - 1);
            if (read == PERMIT) {
                second[count] = text.takeNumber(0, MAX_HOUR);
                third[count] = text.takeNumber(1, MAX_DURATION);
            } else if (read == TIE) {
                second[count] = text.takeNumber(0, MAX_KNOTS);
            } else if (read == PAY) {
                second[count] = text.takeNumber(1, MAX_FUND);
            }
            text.takeSemicolon();
        }

        private static int commandAt(InputText text) {
            if (text.isAtWord("launch")) {
                return LAUNCH;
            }
            if (text.isAtWord("land")) {
                return LAND;
            }
            if (text.isAtWord("hours")) {
                return HOURS;
            }
            if (text.isAtWord("permit")) {
                return PERMIT;
            }
            if (text.isAtWord("cancel")) {
                return CANCEL;
            }
            if (text.isAtWord("tie")) {
                return TIE;
            }
            if (text.isAtWord("repair")) {
                return REPAIR;
            }
            return text.isAtWord("pay") ? PAY : UNKNOWN;
        }
    }

    /** The output text. */
    private static final class OutputText {
        // A permit takes at most 12 bytes and a space.
        static final int ROOM = 13 * MAX_PERMITS;
        static final int GREATEST_UNIT = 100000;

        final int[] bytes = new int[ROOM];
        int length;

        void write(PermitList permits) {
            length = 0;
            for (int permit = 0; permit < permits.count; permit++) {
                if (permit > 0) {
                    putByte(' ');
                }
                putNumber(permits.kite[permit]);
                putByte(':');
                putNumber(permits.start[permit]);
                putByte('+');
                putNumber(permits.duration[permit]);
            }
        }

        private void putByte(int code) {
            if (length < ROOM) {
                bytes[length] = code;
                length++;
            }
        }

        /** Puts a number of at most six digits. */
        private void putNumber(int number) {
            for (int unit = GREATEST_UNIT; unit >= 1; unit /= 10) {
                if (number >= unit || unit == 1) {
                    putByte('0' + number / unit % 10);
                }
            }
        }
    }
}
