/** A crane campaign in a wind farm, as ../shared/DOC.md tells it in numbered promises. */
public final class CraneCampaign {
    public static final int NONE = -1;

    private static final int MAX_TURBINES = 10;
    private static final int MAX_BOGS = 6;
    private static final int MAX_BLADES = 10;
    private static final int MAX_WINDS = 48;
    private static final int MAX_LETTERS = 60;
    private static final int MAX_SAVED = 6;

    private static final int LAST_PLACE = 99;
    private static final int LAST_HOUR = 10000;
    private static final int MAX_HOURS_AT_ONCE = 200;
    private static final int WORST_FAULT = 4;
    private static final int WIND_WITHOUT_ROW = 8;

    private static final int SETTINGS = 7;
    private static final int WIND_LIMIT = 0;
    private static final int SPEED = 1;
    private static final int WORK = 2;
    private static final int WORSENING = 3;
    private static final int BOG_TIME = 4;
    private static final int LIFT = 5;
    private static final int MATS = 6;
    private static final int[] SETTING_AT_FIRST = {16, 5, 3, 24, 2, 10, 0};
    private static final int[] SETTING_LOWEST = {5, 1, 1, 1, 0, 1, 0};
    private static final int[] SETTING_HIGHEST = {25, 20, 12, 200, 10, 100, 50};

    private static final int CAUSES = 5;
    private static final int NOT_SERVED = 0;
    private static final int MOVING = 1;
    private static final int WAITING_FOR_BLADE = 2;
    private static final int WAITING_FOR_WIND = 3;
    private static final int WORKING = 4;

    private final Farm farm = new Farm();
    // The questions about what would be run on this farm, so that none of them makes a new one.
    private final Farm trial = new Farm();
    private final Farm[] saved = new Farm[MAX_SAVED];
    private int oldestSaved = 0;
    private int savedCount = 0;
    private final WindText buffer = new WindText();

    public CraneCampaign() {
        for (int i = 0; i < MAX_SAVED; i++) {
            saved[i] = new Farm();
        }
    }

    // ---- the farm

    public int addTurbine(int place, int height, int rate) throws IllegalArgumentException, IllegalStateException {
        if (!isWithin(place, 1, LAST_PLACE) || !isWithin(height, 50, 160) || !isWithin(rate, 1, 50)) {
            throw new IllegalArgumentException("place, height or rate is out of range");
        }
        if (farm.turbineCount >= MAX_TURBINES || farm.hasTurbineAt(place)) {
            throw new IllegalStateException("there are 10 turbines, or one at this place");
        }
        saveState();
        return farm.buildTurbine(place, height, rate);
    }

    public int setFault(int turbine, int fault) throws IndexOutOfBoundsException, IllegalArgumentException {
        requireTurbine(turbine);
        if (!isWithin(fault, 0, WORST_FAULT)) {
            throw new IllegalArgumentException("fault is not 0 to 4");
        }
        saveState();
        Turbine faulty = farm.turbines[turbine];
        int previous = faulty.fault;
        faulty.fault = fault;
        faulty.age = 0;
        return previous;
    }

    public int setBog(int place, int need) throws IllegalArgumentException, IllegalStateException {
        if (!isWithin(place, 1, LAST_PLACE) || !isWithin(need, 0, 50)) {
            throw new IllegalArgumentException("place or need is out of range");
        }
        if (need != 0 && farm.bogs.isFull() && farm.bogs.indexAt(place) == NONE) {
            throw new IllegalStateException("there are 6 bogs, and none at this place");
        }
        saveState();
        farm.bogs.put(place, need);
        return farm.bogs.count;
    }

    public int set(int setting, int value) throws IndexOutOfBoundsException, IllegalArgumentException {
        requireSetting(setting);
        if (!isWithin(value, SETTING_LOWEST[setting], SETTING_HIGHEST[setting])) {
            throw new IllegalArgumentException("value is out of range");
        }
        saveState();
        int previous = farm.settings[setting];
        farm.settings[setting] = value;
        return previous;
    }

    // ---- plan and blades

    public int plan(int turbine, int place) throws IndexOutOfBoundsException {
        requireTurbine(turbine);
        if (!isWithin(place, 0, farm.plan.countWithout(turbine))) {
            throw new IndexOutOfBoundsException("there is no such place in the plan");
        }
        saveState();
        farm.plan.moveTo(turbine, place);
        return farm.plan.count;
    }

    public int unplan(int turbine) throws IndexOutOfBoundsException, IllegalStateException {
        requireTurbine(turbine);
        int place = farm.plan.placeOf(turbine);
        if (place == NONE) {
            throw new IllegalStateException("the turbine is not in the plan");
        }
        saveState();
        farm.plan.removeAt(place);
        return place;
    }

    public int orderBlade(int turbine) throws IndexOutOfBoundsException, IllegalStateException {
        requireTurbine(turbine);
        if (farm.harbour.isFull()) {
            throw new IllegalStateException("10 blades are ordered and not used");
        }
        saveState();
        farm.harbour.take(turbine, farm.turbines[turbine].bladeWeight());
        return farm.harbour.count;
    }

    public int pass(int hours) throws IllegalArgumentException, IllegalStateException {
        if (!isWithin(hours, 1, MAX_HOURS_AT_ONCE)) {
            throw new IllegalArgumentException("hours is not 1 to 200");
        }
        if (farm.hour + hours > LAST_HOUR) {
            throw new IllegalStateException("the number of the hour would be above 10000");
        }
        saveState();
        return farm.runHours(hours);
    }

    // ---- texts

    public int append(int code) throws IllegalArgumentException, IllegalStateException {
        if (!isWithin(code, 33, 126)) {
            throw new IllegalArgumentException("code is not 33 to 126");
        }
        if (buffer.isFull()) {
            throw new IllegalStateException("the buffer has 60 characters");
        }
        buffer.add(code);
        return buffer.length;
    }

    public int clearBuffer() {
        int previous = buffer.length;
        buffer.length = 0;
        return previous;
    }

    public int firstError() {
        return buffer.errorIndex();
    }

    public int load() throws IllegalArgumentException, IllegalStateException {
        if (!buffer.isComplete()) {
            throw new IllegalArgumentException("the buffer is not a complete wind row");
        }
        if (buffer.numberCount() > MAX_WINDS) {
            throw new IllegalStateException("the row would have more than 48 numbers");
        }
        saveState();
        buffer.writeTo(farm.winds);
        buffer.length = 0;
        return farm.winds.count;
    }

    public int undo() throws IllegalStateException {
        if (savedCount == 0) {
            throw new IllegalStateException("no state is saved");
        }
        savedCount--;
        farm.copyFrom(saved[(oldestSaved + savedCount) % MAX_SAVED]);
        return savedCount;
    }

    // ---- what there is

    public int turbine(int turbine, int what) throws IndexOutOfBoundsException, IllegalArgumentException {
        requireTurbine(turbine);
        if (!isWithin(what, 0, 10)) {
            throw new IllegalArgumentException("what is not 0 to 10");
        }
        return farm.turbineProperty(turbine, what);
    }

    public int blade(int blade, int what) throws IndexOutOfBoundsException, IllegalArgumentException {
        if (!isWithin(blade, 0, farm.harbour.count - 1)) {
            throw new IndexOutOfBoundsException("there is no such blade");
        }
        if (!isWithin(what, 0, 1)) {
            throw new IllegalArgumentException("what is not 0 or 1");
        }
        return what == 0 ? farm.harbour.turbine[blade] : farm.harbour.weight[blade];
    }

    public int bog(int bog, int what) throws IndexOutOfBoundsException, IllegalArgumentException {
        if (!isWithin(bog, 0, farm.bogs.count - 1)) {
            throw new IndexOutOfBoundsException("there is no such bog");
        }
        if (!isWithin(what, 0, 1)) {
            throw new IllegalArgumentException("what is not 0 or 1");
        }
        return what == 0 ? farm.bogs.place[bog] : farm.bogs.need[bog];
    }

    public int claims(int cause) throws IllegalArgumentException {
        if (!isWithin(cause, 0, CAUSES - 1)) {
            throw new IllegalArgumentException("cause is not 0 to 4");
        }
        return farm.lostBy[cause];
    }

    public int count(int what) throws IllegalArgumentException {
        if (!isWithin(what, 0, 14)) {
            throw new IllegalArgumentException("what is not 0 to 14");
        }
        return numberOf(what);
    }

    public int setting(int setting) throws IndexOutOfBoundsException {
        requireSetting(setting);
        return farm.settings[setting];
    }

    // ---- what would be; nothing is changed

    public int way(int from, int to) throws IllegalArgumentException {
        if (!isWithin(from, 0, LAST_PLACE) || !isWithin(to, 0, LAST_PLACE)) {
            throw new IllegalArgumentException("from or to is not 0 to 99");
        }
        return farm.hoursBetween(from, to);
    }

    public int ifPassed(int hours, int what) throws IllegalArgumentException {
        if (!isWithin(hours, 1, MAX_HOURS_AT_ONCE) || !isWithin(what, 0, 8)) {
            throw new IllegalArgumentException("hours or what is out of range");
        }
        trial.copyFrom(farm);
        trial.runHours(hours);
        return trial.outcome(what);
    }

    public int bestFirst() {
        int best = NONE;
        int least = 0;
        for (int i = 0; i < farm.plan.count; i++) {
            int candidate = farm.plan.row[i];
            trial.copyFrom(farm);
            trial.plan.moveTo(candidate, 0);
            int lost = trial.runHours(48);
            if (best == NONE || lost < least) {
                best = candidate;
                least = lost;
            }
        }
        return best;
    }

    public int window(int turbine, int hours) throws IndexOutOfBoundsException, IllegalArgumentException {
        requireTurbine(turbine);
        if (!isWithin(hours, 1, 24)) {
            throw new IllegalArgumentException("hours is not 1 to 24");
        }
        return farm.hoursUntilCalm(turbine, hours);
    }

    public int doneIn() {
        trial.copyFrom(farm);
        for (int hours = 0; hours <= 500; hours++) {
            if (trial.plan.count == 0) {
                return hours;
            }
            trial.runHour();
        }
        return NONE;
    }

    public float meanWind() {
        int count = farm.winds.count;
        return count > 0 ? (float) farm.winds.sum() / count : (float) WIND_WITHOUT_ROW;
    }

    public double lostShare() {
        int lost = farm.lostPower();
        int all = lost + farm.wonPower();
        return all > 0 ? (double) lost / all : 0.0;
    }

    public long digest() {
        long hash = 2269;
        for (int what = 0; what <= 14; what++) {
            hash = mix(hash, numberOf(what));
        }
        hash = mixFarm(hash);
        trial.copyFrom(farm);
        trial.runHours(24);
        for (int what = 0; what <= 8; what++) {
            hash = mix(hash, trial.outcome(what));
        }
        hash = mix(hash, bestFirst());
        hash = mix(hash, doneIn());
        hash = mix(hash, bitsOfFloat(meanWind()));
        hash = mix(hash, bitsOfDouble(lostShare()));
        hash = mix(hash, buffer.length);
        for (int i = 0; i < buffer.length; i++) {
            hash = mix(hash, buffer.letters[i]);
        }
        return hash;
    }

    // ---- parts of the calls above

    private static boolean isWithin(int value, int lowest, int highest) {
        return value >= lowest && value <= highest;
    }

    private void requireTurbine(int turbine) throws IndexOutOfBoundsException {
        if (!farm.hasTurbine(turbine)) {
            throw new IndexOutOfBoundsException("there is no such turbine");
        }
    }

    private static void requireSetting(int setting) throws IndexOutOfBoundsException {
        if (!isWithin(setting, 0, SETTINGS - 1)) {
            throw new IndexOutOfBoundsException("there is no such setting");
        }
    }

    private void saveState() {
        saved[(oldestSaved + savedCount) % MAX_SAVED].copyFrom(farm);
        if (savedCount < MAX_SAVED) {
            savedCount++;
        } else {
            // The new state went into the row of the oldest one.
            oldestSaved = (oldestSaved + 1) % MAX_SAVED;
        }
    }

    private int numberOf(int what) {
        Crane crane = farm.crane;
        switch (what) {
            case 0: return farm.turbineCount;
            case 1: return farm.faultCount();
            case 2: return farm.hour;
            case 3: return farm.windNow();
            case 4: return farm.winds.count;
            case 5: return farm.plan.count;
            case 6: return farm.plan.first();
            case 7: return crane.place;
            case 8: return crane.hoursLeft;
            case 9: return crane.goal;
            case 10: return crane.workOn(farm.plan.first());
            case 11: return farm.lostPower();
            case 12: return farm.wonPower();
            case 13: return farm.harbour.count;
            default: return savedCount;
        }
    }

    private static long mix(long hash, long value) {
        return 31 * hash + value;
    }

    private long mixFarm(long start) {
        long hash = start;
        for (int i = 0; i < SETTINGS; i++) {
            hash = mix(hash, farm.settings[i]);
        }
        for (int t = 0; t < farm.turbineCount; t++) {
            for (int what = 0; what <= 10; what++) {
                hash = mix(hash, farm.turbineProperty(t, what));
            }
            hash = mix(hash, farm.hoursUntilCalm(t, 3));
        }
        for (int i = 0; i < farm.harbour.count; i++) {
            hash = mix(hash, farm.harbour.turbine[i]);
            hash = mix(hash, farm.harbour.weight[i]);
        }
        for (int i = 0; i < farm.bogs.count; i++) {
            hash = mix(hash, farm.bogs.place[i]);
            hash = mix(hash, farm.bogs.need[i]);
        }
        for (int cause = 0; cause < CAUSES; cause++) {
            hash = mix(hash, farm.lostBy[cause]);
        }
        return hash;
    }

    // LANGUAGE.md leaves out Float.floatToIntBits. A mean wind is 0 or 1/48 to 30, so it is never
    // subnormal, and each step by 2 is exact.
    private static int bitsOfFloat(float value) {
        if (value <= 0.0f) {
            return 0;
        }
        float scaled = value;
        int exponent = 127;
        for (int i = 0; i < 126 && scaled >= 2.0f; i++) {
            scaled = scaled / 2.0f;
            exponent++;
        }
        for (int i = 0; i < 126 && scaled < 1.0f; i++) {
            scaled = scaled * 2.0f;
            exponent--;
        }
        return (exponent << 23) | (int) ((scaled - 1.0f) * 8388608.0f);
    }

    // LANGUAGE.md leaves out Double.doubleToLongBits. A share is 0 to 1, and never subnormal.
    private static long bitsOfDouble(double value) {
        if (value <= 0.0) {
            return 0L;
        }
        double scaled = value;
        long exponent = 1023;
        for (int i = 0; i < 1022 && scaled < 1.0; i++) {
            scaled = scaled * 2.0;
            exponent--;
        }
        return (exponent << 52) | (long) ((scaled - 1.0) * 4503599627370496.0);
    }

    /** All that undo brings back: everything but the buffer and the saved states. */
    private static final class Farm {
        final Turbine[] turbines = new Turbine[MAX_TURBINES];
        int turbineCount = 0;
        final Bogs bogs = new Bogs();
        final Harbour harbour = new Harbour();
        final Plan plan = new Plan();
        final Crane crane = new Crane();
        final Winds winds = new Winds();
        final int[] settings = new int[SETTINGS];
        final int[] lostBy = new int[CAUSES];
        int hour = 0;

        Farm() {
            for (int i = 0; i < MAX_TURBINES; i++) {
                turbines[i] = new Turbine();
            }
            System.arraycopy(SETTING_AT_FIRST, 0, settings, 0, SETTINGS);
        }

        void copyFrom(Farm other) {
            for (int i = 0; i < other.turbineCount; i++) {
                turbines[i].copyFrom(other.turbines[i]);
            }
            turbineCount = other.turbineCount;
            bogs.copyFrom(other.bogs);
            harbour.copyFrom(other.harbour);
            plan.copyFrom(other.plan);
            crane.copyFrom(other.crane);
            winds.copyFrom(other.winds);
            System.arraycopy(other.settings, 0, settings, 0, SETTINGS);
            System.arraycopy(other.lostBy, 0, lostBy, 0, CAUSES);
            hour = other.hour;
        }

        boolean hasTurbine(int turbine) {
            return turbine >= 0 && turbine < turbineCount;
        }

        boolean hasTurbineAt(int place) {
            for (int i = 0; i < turbineCount; i++) {
                if (turbines[i].place == place) {
                    return true;
                }
            }
            return false;
        }

        int buildTurbine(int place, int height, int rate) {
            if (turbineCount >= MAX_TURBINES) {
                return NONE;
            }
            turbines[turbineCount].begin(place, height, rate);
            turbineCount++;
            return turbineCount - 1;
        }

        int faultCount() {
            int faults = 0;
            for (int i = 0; i < turbineCount; i++) {
                if (turbines[i].fault != 0) {
                    faults++;
                }
            }
            return faults;
        }

        int lostPower() {
            int sum = 0;
            for (int cause = 0; cause < CAUSES; cause++) {
                sum += lostBy[cause];
            }
            return sum;
        }

        int wonPower() {
            int sum = 0;
            for (int i = 0; i < turbineCount; i++) {
                sum += turbines[i].won;
            }
            return sum;
        }

        int windNow() {
            return winds.at(hour);
        }

        int turbineProperty(int turbine, int what) {
            if (!hasTurbine(turbine)) {
                return NONE;
            }
            Turbine asked = turbines[turbine];
            switch (what) {
                case 0: return asked.place;
                case 1: return asked.height;
                case 2: return asked.rate;
                case 3: return asked.fault;
                case 4: return asked.age;
                case 5: return asked.limit(settings[WIND_LIMIT]);
                case 6: return plan.placeOf(turbine);
                case 7: return harbour.unloadedFor(turbine);
                case 8: return asked.lost;
                case 9: return asked.won;
                default: return asked.fullPower(windNow());
            }
        }

        int outcome(int what) {
            switch (what) {
                case 5: return lostPower();
                case 6: return wonPower();
                case 7: return faultCount();
                case 8: return plan.count;
                default: return what >= 0 && what < CAUSES ? lostBy[what] : 0;
            }
        }

        int hoursBetween(int from, int to) {
            int speed = Math.max(1, settings[SPEED]);
            int distance = Math.abs(from - to);
            int bogsToCross = bogs.countBetween(Math.min(from, to), Math.max(from, to), settings[MATS]);
            return (distance + speed - 1) / speed + bogsToCross * settings[BOG_TIME];
        }

        int hoursUntilCalm(int turbine, int hours) {
            if (!hasTurbine(turbine)) {
                return NONE;
            }
            int limit = turbines[turbine].limit(settings[WIND_LIMIT]);
            int calm = 0;
            for (int ahead = 0; ahead < 96 + hours; ahead++) {
                calm = winds.at(hour + ahead) <= limit ? calm + 1 : 0;
                if (calm == hours) {
                    return ahead + 1 - hours;
                }
            }
            return NONE;
        }

        /** Returns the power that is lost in these hours. */
        int runHours(int hours) {
            int lost = 0;
            for (int i = 0; i < hours; i++) {
                lost += runHour();
            }
            return lost;
        }

        /** Returns the power that is lost in this hour. */
        int runHour() {
            harbour.unload(settings[LIFT]);
            dropFaultless();
            int target = plan.first();
            int cause = serve(target);
            int lost = sharePower(target, cause);
            if (cause == WORKING) {
                finishIfDone(target);
            }
            worsen(cause == WORKING ? target : NONE);
            hour++;
            return lost;
        }

        private void dropFaultless() {
            if (plan.count > 0 && plan.first() != crane.workedOn) {
                crane.forgetWork();
            }
            for (int i = 0; i < MAX_TURBINES; i++) {
                int first = plan.first();
                if (!hasTurbine(first) || turbines[first].fault != 0) {
                    return;
                }
                plan.removeAt(0);
                crane.forgetWork();
            }
        }

        /** Returns the cause by which the target loses power in this hour. */
        private int serve(int target) {
            if (!hasTurbine(target)) {
                return NOT_SERVED;
            }
            Turbine served = turbines[target];
            if (crane.isOnWay() || crane.place != served.place) {
                crane.driveTo(target, served.place, hoursBetween(crane.place, served.place));
                return MOVING;
            }
            if (harbour.unloadedFor(target) == 0) {
                return WAITING_FOR_BLADE;
            }
            if (windNow() > served.limit(settings[WIND_LIMIT])) {
                return WAITING_FOR_WIND;
            }
            crane.workAnHourOn(target);
            return WORKING;
        }

        /** Returns the power that is lost in this hour. */
        private int sharePower(int target, int causeOfTarget) {
            int wind = windNow();
            int sum = 0;
            for (int i = 0; i < turbineCount; i++) {
                int full = turbines[i].fullPower(wind);
                int cause = i == target ? causeOfTarget : NOT_SERVED;
                int lost = cause == WORKING ? full : full * turbines[i].fault / 4;
                turbines[i].lost += lost;
                turbines[i].won += full - lost;
                if (cause >= 0 && cause < CAUSES) {
                    lostBy[cause] += lost;
                }
                sum += lost;
            }
            return sum;
        }

        // The document ends the fault behind part 3 of the hour; part 3 sees nothing of the rest
        // of the end, so that all of it stands here.
        private void finishIfDone(int target) {
            if (!hasTurbine(target) || crane.workDone < settings[WORK] * turbines[target].fault) {
                return;
            }
            turbines[target].fault = 0;
            turbines[target].age = 0;
            harbour.useBladeFor(target);
            crane.forgetWork();
            plan.removeAt(plan.placeOf(target));
        }

        private void worsen(int workedOn) {
            for (int i = 0; i < turbineCount; i++) {
                if (i != workedOn) {
                    turbines[i].growOlder(settings[WORSENING]);
                }
            }
        }
    }

    private static final class Turbine {
        int place;
        int height;
        int rate;
        int fault;
        int age;
        int lost;
        int won;

        void begin(int newPlace, int newHeight, int newRate) {
            place = newPlace;
            height = newHeight;
            rate = newRate;
            fault = 0;
            age = 0;
            lost = 0;
            won = 0;
        }

        void copyFrom(Turbine other) {
            place = other.place;
            height = other.height;
            rate = other.rate;
            fault = other.fault;
            age = other.age;
            lost = other.lost;
            won = other.won;
        }

        int limit(int windLimit) {
            return windLimit - height / 25;
        }

        int bladeWeight() {
            return height / 10;
        }

        int fullPower(int wind) {
            return wind < 3 || wind > 25 ? 0 : rate * Math.min(wind, 12) / 12;
        }

        // The fault is only looked at when the age has grown: an hour of work never worsens it, not
        // even if the worsening was set below the age.
        void growOlder(int worsening) {
            if (fault == 0 || fault == WORST_FAULT) {
                return;
            }
            age++;
            if (age >= worsening) {
                fault++;
                age = 0;
            }
        }
    }

    /** The bogs, in ascending order of their places. */
    private static final class Bogs {
        final int[] place = new int[MAX_BOGS];
        final int[] need = new int[MAX_BOGS];
        int count = 0;

        void copyFrom(Bogs other) {
            System.arraycopy(other.place, 0, place, 0, MAX_BOGS);
            System.arraycopy(other.need, 0, need, 0, MAX_BOGS);
            count = other.count;
        }

        boolean isFull() {
            return count >= MAX_BOGS;
        }

        int indexAt(int askedPlace) {
            for (int i = 0; i < count; i++) {
                if (place[i] == askedPlace) {
                    return i;
                }
            }
            return NONE;
        }

        void put(int newPlace, int newNeed) {
            int index = indexAt(newPlace);
            if (newNeed == 0) {
                removeAt(index);
            } else if (index == NONE) {
                insert(newPlace, newNeed);
            } else {
                need[index] = newNeed;
            }
        }

        private void removeAt(int index) {
            if (index < 0 || index >= count) {
                return;
            }
            count--;
            for (int i = index; i < count; i++) {
                place[i] = place[i + 1];
                need[i] = need[i + 1];
            }
        }

        private void insert(int newPlace, int newNeed) {
            if (isFull()) {
                return;
            }
            int index = count;
            for (int i = count; i > 0 && place[i - 1] > newPlace; i--) {
                place[i] = place[i - 1];
                need[i] = need[i - 1];
                index = i - 1;
            }
            place[index] = newPlace;
            need[index] = newNeed;
            count++;
        }

        int countBetween(int lower, int upper, int mats) {
            int bogs = 0;
            for (int i = 0; i < count; i++) {
                if (place[i] > lower && place[i] < upper && need[i] > mats) {
                    bogs++;
                }
            }
            return bogs;
        }
    }

    /** The blades that are ordered and not used, in the order in which they were ordered. */
    private static final class Harbour {
        final int[] turbine = new int[MAX_BLADES];
        final int[] weight = new int[MAX_BLADES];
        int count = 0;

        void copyFrom(Harbour other) {
            System.arraycopy(other.turbine, 0, turbine, 0, MAX_BLADES);
            System.arraycopy(other.weight, 0, weight, 0, MAX_BLADES);
            count = other.count;
        }

        boolean isFull() {
            return count >= MAX_BLADES;
        }

        void take(int newTurbine, int newWeight) {
            if (isFull()) {
                return;
            }
            turbine[count] = newTurbine;
            weight[count] = newWeight;
            count++;
        }

        void unload(int tonnes) {
            int rest = tonnes;
            for (int i = 0; i < count; i++) {
                int unloaded = Math.min(rest, weight[i]);
                weight[i] -= unloaded;
                rest -= unloaded;
            }
        }

        int unloadedFor(int askedTurbine) {
            int blades = 0;
            for (int i = 0; i < count; i++) {
                if (turbine[i] == askedTurbine && weight[i] == 0) {
                    blades++;
                }
            }
            return blades;
        }

        void useBladeFor(int askedTurbine) {
            for (int i = 0; i < count; i++) {
                if (turbine[i] == askedTurbine && weight[i] == 0) {
                    removeAt(i);
                    return;
                }
            }
        }

        private void removeAt(int index) {
            if (index < 0 || index >= count) {
                return;
            }
            count--;
            for (int i = index; i < count; i++) {
                turbine[i] = turbine[i + 1];
                weight[i] = weight[i + 1];
            }
        }
    }

    /** A row of turbines, each one at most once. */
    private static final class Plan {
        final int[] row = new int[MAX_TURBINES];
        int count = 0;

        void copyFrom(Plan other) {
            System.arraycopy(other.row, 0, row, 0, MAX_TURBINES);
            count = other.count;
        }

        int first() {
            return count > 0 ? row[0] : NONE;
        }

        int placeOf(int turbine) {
            for (int i = 0; i < count; i++) {
                if (row[i] == turbine) {
                    return i;
                }
            }
            return NONE;
        }

        int countWithout(int turbine) {
            return placeOf(turbine) == NONE ? count : count - 1;
        }

        void moveTo(int turbine, int place) {
            removeAt(placeOf(turbine));
            if (place < 0 || place > count || count >= MAX_TURBINES) {
                return;
            }
            for (int i = count; i > place; i--) {
                row[i] = row[i - 1];
            }
            row[place] = turbine;
            count++;
        }

        void removeAt(int place) {
            if (place < 0 || place >= count) {
                return;
            }
            count--;
            for (int i = place; i < count; i++) {
                row[i] = row[i + 1];
            }
        }
    }

    private static final class Crane {
        // Where it stands, or from where it set out: on its way it is nowhere else.
        int place = 0;
        int hoursLeft = 0;
        int goal = NONE;
        int workDone = 0;
        int workedOn = NONE;

        void copyFrom(Crane other) {
            place = other.place;
            hoursLeft = other.hoursLeft;
            goal = other.goal;
            workDone = other.workDone;
            workedOn = other.workedOn;
        }

        boolean isOnWay() {
            return goal != NONE;
        }

        void driveTo(int target, int placeOfTarget, int hoursOfWay) {
            hoursLeft = Math.max(0, (goal == target ? hoursLeft : hoursOfWay) - 1);
            goal = target;
            if (hoursLeft == 0) {
                place = placeOfTarget;
                goal = NONE;
            }
        }

        void workAnHourOn(int target) {
            workedOn = target;
            workDone++;
        }

        void forgetWork() {
            workedOn = NONE;
            workDone = 0;
        }

        int workOn(int turbine) {
            return turbine == workedOn ? workDone : 0;
        }
    }

    private static final class Winds {
        final int[] row = new int[MAX_WINDS];
        int count = 0;

        void copyFrom(Winds other) {
            System.arraycopy(other.row, 0, row, 0, MAX_WINDS);
            count = other.count;
        }

        void add(int wind) {
            if (count < MAX_WINDS) {
                row[count] = wind;
                count++;
            }
        }

        int at(int hour) {
            return count > 0 && hour >= 0 ? row[hour % count] : WIND_WITHOUT_ROW;
        }

        int sum() {
            int sum = 0;
            for (int i = 0; i < count; i++) {
                sum += row[i];
            }
            return sum;
        }
    }

    /** The buffer, read as a wind row by a machine of states from left to right. */
    private static final class WindText {
        private static final int WRONG = 0;
        private static final int PART_BEGINS = 1;
        private static final int NUMBER_1_OR_2 = 2;
        private static final int NUMBER_3 = 3;
        private static final int NUMBER_ENDED = 4;
        private static final int TIMES_BEGIN = 5;
        private static final int TIMES_1 = 6;
        private static final int TIMES_2_OR_3 = 7;
        private static final int TIMES_4 = 8;
        private static final int TIMES_ENDED = 9;

        final int[] letters = new int[MAX_LETTERS];
        int length = 0;

        boolean isFull() {
            return length >= MAX_LETTERS;
        }

        void add(int code) {
            if (!isFull()) {
                letters[length] = code;
                length++;
            }
        }

        int errorIndex() {
            int state = PART_BEGINS;
            for (int i = 0; i < length; i++) {
                state = after(state, letters[i]);
                if (state == WRONG) {
                    return i;
                }
            }
            return length;
        }

        boolean isComplete() {
            int state = PART_BEGINS;
            for (int i = 0; i < length; i++) {
                state = after(state, letters[i]);
            }
            return isEndOfPart(state);
        }

        private static boolean isEndOfPart(int state) {
            return isNumber(state) || state == TIMES_2_OR_3 || state == TIMES_4 || state == TIMES_ENDED;
        }

        private static boolean isNumber(int state) {
            return state == NUMBER_1_OR_2 || state == NUMBER_3 || state == NUMBER_ENDED;
        }

        private static int after(int state, int code) {
            if (code == ',') {
                return isEndOfPart(state) ? PART_BEGINS : WRONG;
            }
            if (code == '*') {
                return isNumber(state) ? TIMES_BEGIN : WRONG;
            }
            return code >= '0' && code <= '9' ? afterDigit(state, code - '0') : WRONG;
        }

        private static int afterDigit(int state, int digit) {
            switch (state) {
                case PART_BEGINS: return afterFirstOfNumber(digit);
                case NUMBER_1_OR_2: return NUMBER_ENDED;
                case NUMBER_3: return digit == 0 ? NUMBER_ENDED : WRONG;
                case TIMES_BEGIN: return afterFirstOfTimes(digit);
                case TIMES_1:
                case TIMES_2_OR_3: return TIMES_ENDED;
                case TIMES_4: return digit <= 8 ? TIMES_ENDED : WRONG;
                default: return WRONG;
            }
        }

        private static int afterFirstOfNumber(int digit) {
            switch (digit) {
                case 1:
                case 2: return NUMBER_1_OR_2;
                case 3: return NUMBER_3;
                default: return NUMBER_ENDED;
            }
        }

        private static int afterFirstOfTimes(int digit) {
            switch (digit) {
                case 0: return WRONG;
                case 1: return TIMES_1;
                case 2:
                case 3: return TIMES_2_OR_3;
                case 4: return TIMES_4;
                default: return TIMES_ENDED;
            }
        }

        /** How many numbers a complete wind row tells. */
        int numberCount() {
            int numbers = 0;
            for (int i = 0; i < length; i++) {
                if (i == 0 || letters[i - 1] == ',') {
                    numbers += timesFrom(i);
                }
            }
            return numbers;
        }

        /** Makes the numbers of a complete wind row the winds. */
        void writeTo(Winds winds) {
            winds.count = 0;
            for (int i = 0; i < length; i++) {
                if (i == 0 || letters[i - 1] == ',') {
                    int number = valueFrom(i);
                    int times = timesFrom(i);
                    for (int k = 0; k < times; k++) {
                        winds.add(number);
                    }
                }
            }
        }

        private int timesFrom(int start) {
            for (int i = start; i < length && letters[i] != ','; i++) {
                if (letters[i] == '*') {
                    return valueFrom(i + 1);
                }
            }
            return 1;
        }

        private int valueFrom(int start) {
            int value = 0;
            for (int i = start; i < length && letters[i] >= '0' && letters[i] <= '9'; i++) {
                value = 10 * value + letters[i] - '0';
            }
            return value;
        }
    }
}
