import java.util.ArrayList;
import java.util.List;

/** The digest of promise 28, made of the answers of the other calls. */
final class Digest {
    private Digest() {
    }

    static long of(CraneCampaign farm, String buffer) {
        long hash = 2269;
        for (long value : values(farm, buffer)) {
            hash = 31 * hash + value;
        }
        return hash;
    }

    static List<Long> values(CraneCampaign farm, String buffer) {
        List<Long> values = new ArrayList<>();
        for (int what = 0; what <= 14; what++) {
            values.add((long) farm.count(what));
        }
        for (int i = 0; i <= 6; i++) {
            values.add((long) farm.setting(i));
        }
        addParts(farm, values);
        for (int cause = 0; cause <= 4; cause++) {
            values.add((long) farm.claims(cause));
        }
        for (int what = 0; what <= 8; what++) {
            values.add((long) farm.ifPassed(24, what));
        }
        values.add((long) farm.bestFirst());
        values.add((long) farm.doneIn());
        values.add((long) Float.floatToIntBits(farm.meanWind()));
        values.add(Double.doubleToLongBits(farm.lostShare()));
        values.add((long) buffer.length());
        for (int i = 0; i < buffer.length(); i++) {
            values.add((long) buffer.charAt(i));
        }
        return values;
    }

    private static void addParts(CraneCampaign farm, List<Long> values) {
        for (int t = 0; t < farm.count(0); t++) {
            for (int what = 0; what <= 10; what++) {
                values.add((long) farm.turbine(t, what));
            }
            values.add((long) farm.window(t, 3));
        }
        for (int i = 0; i < farm.count(13); i++) {
            values.add((long) farm.blade(i, 0));
            values.add((long) farm.blade(i, 1));
        }
        // No call tells how many bogs there are without a change.
        for (int i = 0; i < 6; i++) {
            try {
                values.add((long) farm.bog(i, 0));
                values.add((long) farm.bog(i, 1));
            } catch (IndexOutOfBoundsException e) {
                return;
            }
        }
    }
}
