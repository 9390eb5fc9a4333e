/** The digest of promise 28, made of the answers of the other calls. */
final class Digest {
    private Digest() {
    }

    static long of(CraneCampaign farm, String buffer) {
        long hash = 2269;
        for (int what = 0; what <= 14; what++) {
            hash = 31 * hash + farm.count(what);
        }
        for (int i = 0; i <= 6; i++) {
            hash = 31 * hash + farm.setting(i);
        }
        for (int t = 0; t < farm.count(0); t++) {
            for (int what = 0; what <= 10; what++) {
                hash = 31 * hash + farm.turbine(t, what);
            }
            hash = 31 * hash + farm.window(t, 3);
        }
        for (int i = 0; i < farm.count(13); i++) {
            hash = 31 * hash + farm.blade(i, 0);
            hash = 31 * hash + farm.blade(i, 1);
        }
        hash = withBogs(farm, hash);
        for (int cause = 0; cause <= 4; cause++) {
            hash = 31 * hash + farm.claims(cause);
        }
        for (int what = 0; what <= 8; what++) {
            hash = 31 * hash + farm.ifPassed(24, what);
        }
        hash = 31 * hash + farm.bestFirst();
        hash = 31 * hash + farm.doneIn();
        hash = 31 * hash + Float.floatToIntBits(farm.meanWind());
        hash = 31 * hash + Double.doubleToLongBits(farm.lostShare());
        hash = 31 * hash + buffer.length();
        for (int i = 0; i < buffer.length(); i++) {
            hash = 31 * hash + buffer.charAt(i);
        }
        return hash;
    }

    // No call tells how many bogs there are without a change.
    private static long withBogs(CraneCampaign farm, long start) {
        long hash = start;
        for (int i = 0; i < 6; i++) {
            try {
                hash = 31 * (31 * hash + farm.bog(i, 0)) + farm.bog(i, 1);
            } catch (IndexOutOfBoundsException e) {
                return hash;
            }
        }
        return hash;
    }
}
