import java.util.ArrayList;
import java.util.List;
import java.util.regex.Pattern;

/**
 * The document once more, written from its words with lists and copies and without a look at the
 * program: ModelTest asks both the same. Wrong calls throw what the document names first.
 */
final class Model {
    private static final String PART = "([0-9]|[12][0-9]|30)(\\*([2-9]|[123][0-9]|4[0-8]))?";
    private static final Pattern WIND_ROW = Pattern.compile(PART + "(," + PART + ")*");

    static final class Mill {
        int place;
        int height;
        int rate;
        int fault;
        int age;
        int lost;
        int won;

        Mill copy() {
            Mill mill = new Mill();
            mill.place = place;
            mill.height = height;
            mill.rate = rate;
            mill.fault = fault;
            mill.age = age;
            mill.lost = lost;
            mill.won = won;
            return mill;
        }
    }

    static final class State {
        List<Mill> mills = new ArrayList<>();
        int[] bogNeed = new int[100];
        int[] settings = {16, 5, 3, 24, 2, 10, 0};
        List<Integer> plan = new ArrayList<>();
        List<int[]> blades = new ArrayList<>();
        List<Integer> winds = new ArrayList<>();
        int[] claims = new int[5];
        int hour = 0;
        int from = 0;
        int left = 0;
        int goal = -1;
        int work = 0;
        int worker = -1;

        State copy() {
            State state = new State();
            for (Mill mill : mills) {
                state.mills.add(mill.copy());
            }
            state.bogNeed = bogNeed.clone();
            state.settings = settings.clone();
            state.plan.addAll(plan);
            for (int[] blade : blades) {
                state.blades.add(blade.clone());
            }
            state.winds.addAll(winds);
            state.claims = claims.clone();
            state.hour = hour;
            state.from = from;
            state.left = left;
            state.goal = goal;
            state.work = work;
            state.worker = worker;
            return state;
        }

        int wind(int askedHour) {
            return winds.isEmpty() ? 8 : winds.get(askedHour % winds.size());
        }

        int limit(int t) {
            return settings[0] - mills.get(t).height / 25;
        }

        int full(int t, int wind) {
            if (wind < 3 || wind > 25) {
                return 0;
            }
            return mills.get(t).rate * (wind < 12 ? wind : 12) / 12;
        }

        int way(int a, int b) {
            int distance = a < b ? b - a : a - b;
            int hours = (distance + settings[1] - 1) / settings[1];
            for (int place = 1; place <= 99; place++) {
                boolean between = a < place && place < b || b < place && place < a;
                if (between && bogNeed[place] > settings[6]) {
                    hours += settings[4];
                }
            }
            return hours;
        }

        int firstUnloaded(int t) {
            for (int i = 0; i < blades.size(); i++) {
                if (blades.get(i)[0] == t && blades.get(i)[1] == 0) {
                    return i;
                }
            }
            return -1;
        }

        int anHour() {
            for (int tonne = 0; tonne < settings[5]; tonne++) {
                for (int[] blade : blades) {
                    if (blade[1] > 0) {
                        blade[1]--;
                        break;
                    }
                }
            }
            if (!plan.isEmpty() && plan.get(0) != worker) {
                work = 0;
                worker = plan.get(0);
            }
            while (!plan.isEmpty() && mills.get(plan.get(0)).fault == 0) {
                plan.remove(0);
                work = 0;
            }
            int wind = wind(hour);
            int target = plan.isEmpty() ? -1 : plan.get(0);
            int cause = target < 0 ? 0 : causeFor(target, wind);
            boolean repaired = false;
            if (cause == 4) {
                worker = target;
                work++;
                repaired = work >= settings[2] * mills.get(target).fault;
                if (repaired) {
                    blades.remove(firstUnloaded(target));
                    work = 0;
                    plan.remove(0);
                }
            }
            return lose(target, cause, wind, repaired);
        }

        private int causeFor(int target, int wind) {
            int there = mills.get(target).place;
            if (goal < 0 && from == there) {
                return firstUnloaded(target) < 0 ? 2 : wind > limit(target) ? 3 : 4;
            }
            if (goal == target) {
                left = left - 1;
            } else {
                left = way(from, there) - 1;
                goal = target;
            }
            if (left <= 0) {
                left = 0;
                from = there;
                goal = -1;
            }
            return 1;
        }

        private int lose(int target, int cause, int wind, boolean repaired) {
            int sum = 0;
            for (int t = 0; t < mills.size(); t++) {
                Mill mill = mills.get(t);
                int lost = t == target && cause == 4 ? full(t, wind) : full(t, wind) * mill.fault / 4;
                mill.lost += lost;
                mill.won += full(t, wind) - lost;
                claims[t == target ? cause : 0] += lost;
                sum += lost;
            }
            if (repaired) {
                mills.get(target).fault = 0;
                mills.get(target).age = 0;
            }
            for (int t = 0; t < mills.size(); t++) {
                Mill mill = mills.get(t);
                boolean served = t == target && cause == 4;
                if (mill.fault >= 1 && mill.fault <= 3 && !served && ++mill.age >= settings[3]) {
                    mill.fault++;
                    mill.age = 0;
                }
            }
            hour++;
            return sum;
        }
    }

    private State now = new State();
    private final List<State> before = new ArrayList<>();
    private String buffer = "";

    private static void index(boolean right) {
        if (!right) {
            throw new IndexOutOfBoundsException();
        }
    }

    private static void argument(boolean right) {
        if (!right) {
            throw new IllegalArgumentException();
        }
    }

    private static void state(boolean right) {
        if (!right) {
            throw new IllegalStateException();
        }
    }

    private static boolean in(int value, int low, int high) {
        return low <= value && value <= high;
    }

    private void mill(int turbine) {
        index(in(turbine, 0, now.mills.size() - 1));
    }

    private void save() {
        before.add(now.copy());
        if (before.size() == 7) {
            before.remove(0);
        }
    }

    int addTurbine(int place, int height, int rate) {
        argument(in(place, 1, 99) && in(height, 50, 160) && in(rate, 1, 50));
        state(now.mills.size() < 10);
        for (Mill mill : now.mills) {
            state(mill.place != place);
        }
        save();
        Mill mill = new Mill();
        mill.place = place;
        mill.height = height;
        mill.rate = rate;
        now.mills.add(mill);
        return now.mills.size() - 1;
    }

    int setFault(int turbine, int fault) {
        mill(turbine);
        argument(in(fault, 0, 4));
        save();
        int previous = now.mills.get(turbine).fault;
        now.mills.get(turbine).fault = fault;
        now.mills.get(turbine).age = 0;
        return previous;
    }

    private List<Integer> bogs() {
        List<Integer> places = new ArrayList<>();
        for (int place = 1; place <= 99; place++) {
            if (now.bogNeed[place] > 0) {
                places.add(place);
            }
        }
        return places;
    }

    int setBog(int place, int need) {
        argument(in(place, 1, 99) && in(need, 0, 50));
        state(bogs().size() < 6 || now.bogNeed[place] > 0 || need == 0);
        save();
        now.bogNeed[place] = need;
        return bogs().size();
    }

    int set(int setting, int value) {
        index(in(setting, 0, 6));
        String[] ranges = {"5 25", "1 20", "1 12", "1 200", "0 10", "1 100", "0 50"};
        String[] range = ranges[setting].split(" ");
        argument(in(value, Integer.parseInt(range[0]), Integer.parseInt(range[1])));
        save();
        int previous = now.settings[setting];
        now.settings[setting] = value;
        return previous;
    }

    int plan(int turbine, int place) {
        mill(turbine);
        List<Integer> others = new ArrayList<>(now.plan);
        others.remove((Integer) turbine);
        index(in(place, 0, others.size()));
        save();
        others.add(place, turbine);
        now.plan = others;
        return others.size();
    }

    int unplan(int turbine) {
        mill(turbine);
        int place = now.plan.indexOf(turbine);
        state(place >= 0);
        save();
        now.plan.remove(place);
        return place;
    }

    int orderBlade(int turbine) {
        mill(turbine);
        state(now.blades.size() < 10);
        save();
        now.blades.add(new int[] {turbine, now.mills.get(turbine).height / 10});
        return now.blades.size();
    }

    int pass(int hours) {
        argument(in(hours, 1, 200));
        state(now.hour + hours <= 10000);
        save();
        int lost = 0;
        for (int i = 0; i < hours; i++) {
            lost += now.anHour();
        }
        return lost;
    }

    int append(int code) {
        argument(in(code, 33, 126));
        state(buffer.length() < 60);
        buffer = buffer + (char) code;
        return buffer.length();
    }

    int clearBuffer() {
        int length = buffer.length();
        buffer = "";
        return length;
    }

    // What can follow a right beginning ends, at the latest, one digit later: 0 or 2 is always right.
    private static boolean canBegin(String text) {
        return text.isEmpty() || isRow(text) || isRow(text + "0") || isRow(text + "2");
    }

    private static boolean isRow(String text) {
        return WIND_ROW.matcher(text).matches();
    }

    int firstError() {
        for (int i = 0; i < buffer.length(); i++) {
            if (!canBegin(buffer.substring(0, i + 1))) {
                return i;
            }
        }
        return buffer.length();
    }

    int load() {
        argument(isRow(buffer));
        List<Integer> row = new ArrayList<>();
        for (String part : buffer.split(",")) {
            String[] words = part.split("\\*");
            for (int i = 0; i < (words.length > 1 ? Integer.parseInt(words[1]) : 1); i++) {
                row.add(Integer.parseInt(words[0]));
            }
        }
        state(row.size() <= 48);
        save();
        now.winds = row;
        buffer = "";
        return row.size();
    }

    int undo() {
        state(!before.isEmpty());
        now = before.remove(before.size() - 1);
        return before.size();
    }

    int turbine(int turbine, int what) {
        mill(turbine);
        argument(in(what, 0, 10));
        Mill mill = now.mills.get(turbine);
        int unloaded = 0;
        for (int[] blade : now.blades) {
            unloaded += blade[0] == turbine && blade[1] == 0 ? 1 : 0;
        }
        return new int[] {mill.place, mill.height, mill.rate, mill.fault, mill.age, now.limit(turbine),
            now.plan.indexOf(turbine), unloaded, mill.lost, mill.won, now.full(turbine, now.wind(now.hour))}[what];
    }

    int blade(int blade, int what) {
        index(in(blade, 0, now.blades.size() - 1));
        argument(in(what, 0, 1));
        return now.blades.get(blade)[what];
    }

    int bog(int bog, int what) {
        index(in(bog, 0, bogs().size() - 1));
        argument(in(what, 0, 1));
        return what == 0 ? bogs().get(bog) : now.bogNeed[bogs().get(bog)];
    }

    int claims(int cause) {
        argument(in(cause, 0, 4));
        return now.claims[cause];
    }

    private static int faults(State state) {
        int faults = 0;
        for (Mill mill : state.mills) {
            faults += mill.fault > 0 ? 1 : 0;
        }
        return faults;
    }

    private static int lost(State state) {
        int lost = 0;
        for (Mill mill : state.mills) {
            lost += mill.lost;
        }
        return lost;
    }

    private static int won(State state) {
        int won = 0;
        for (Mill mill : state.mills) {
            won += mill.won;
        }
        return won;
    }

    int count(int what) {
        argument(in(what, 0, 14));
        int first = now.plan.isEmpty() ? -1 : now.plan.get(0);
        int work = !now.plan.isEmpty() && now.worker == first ? now.work : 0;
        return new int[] {now.mills.size(), faults(now), now.hour, now.wind(now.hour), now.winds.size(),
            now.plan.size(), first, now.from, now.left, now.goal, work, lost(now), won(now), now.blades.size(),
            before.size()}[what];
    }

    int setting(int setting) {
        index(in(setting, 0, 6));
        return now.settings[setting];
    }

    int way(int from, int to) {
        argument(in(from, 0, 99) && in(to, 0, 99));
        return now.way(from, to);
    }

    int ifPassed(int hours, int what) {
        argument(in(hours, 1, 200) && in(what, 0, 8));
        State then = now.copy();
        for (int i = 0; i < hours; i++) {
            then.anHour();
        }
        int[] c = then.claims;
        return new int[] {c[0], c[1], c[2], c[3], c[4], lost(then), won(then), faults(then), then.plan.size()}[what];
    }

    int bestFirst() {
        int best = -1;
        int least = Integer.MAX_VALUE;
        for (Integer turbine : now.plan) {
            State then = now.copy();
            then.plan.remove(turbine);
            then.plan.add(0, turbine);
            int sum = 0;
            for (int i = 0; i < 48; i++) {
                sum += then.anHour();
            }
            if (sum < least) {
                least = sum;
                best = turbine;
            }
        }
        return best;
    }

    int window(int turbine, int hours) {
        mill(turbine);
        argument(in(hours, 1, 24));
        for (int begin = 0; begin <= 96; begin++) {
            boolean calm = true;
            for (int i = 0; i < hours; i++) {
                calm = calm && now.wind(now.hour + begin + i) <= now.limit(turbine);
            }
            if (calm) {
                return begin;
            }
        }
        return -1;
    }

    int doneIn() {
        State then = now.copy();
        int hours = 0;
        while (!then.plan.isEmpty() && hours < 501) {
            then.anHour();
            hours++;
        }
        return hours <= 500 ? hours : -1;
    }

    float meanWind() {
        int sum = 0;
        for (int wind : now.winds) {
            sum += wind;
        }
        return now.winds.isEmpty() ? 8.0f : ((float) sum) / now.winds.size();
    }

    double lostShare() {
        int all = count(11) + count(12);
        return all == 0 ? 0.0 : ((double) count(11)) / all;
    }

    long digest() {
        List<Long> values = new ArrayList<>();
        for (int what = 0; what < 15; what++) {
            values.add((long) count(what));
        }
        for (int setting : now.settings) {
            values.add((long) setting);
        }
        for (int t = 0; t < now.mills.size(); t++) {
            for (int what = 0; what < 11; what++) {
                values.add((long) turbine(t, what));
            }
            values.add((long) window(t, 3));
        }
        for (int[] blade : now.blades) {
            values.add((long) blade[0]);
            values.add((long) blade[1]);
        }
        for (int place : bogs()) {
            values.add((long) place);
            values.add((long) now.bogNeed[place]);
        }
        for (int claim : now.claims) {
            values.add((long) claim);
        }
        for (int what = 0; what < 9; what++) {
            values.add((long) ifPassed(24, what));
        }
        values.add((long) bestFirst());
        values.add((long) doneIn());
        values.add((long) Float.floatToIntBits(meanWind()));
        values.add(Double.doubleToLongBits(lostShare()));
        values.add((long) buffer.length());
        for (char letter : buffer.toCharArray()) {
            values.add((long) letter);
        }
        long hash = 2269;
        for (long value : values) {
            hash = 31 * hash + value;
        }
        return hash;
    }
}
