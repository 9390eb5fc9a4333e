import java.util.LinkedHashSet;
import java.util.Set;
import java.util.function.Consumer;
import java.util.function.Supplier;

/** Takes the document's sentences one by one, each with the test of the boundary cases that it names. */
final class Edge {
    interface WithNumber {
        void call(CraneCampaign farm, int number);
    }

    static final Class<? extends RuntimeException> INDEX = IndexOutOfBoundsException.class;
    static final Class<? extends RuntimeException> ARGUMENT = IllegalArgumentException.class;
    static final Class<? extends RuntimeException> STATE = IllegalStateException.class;

    private static final Set<String> TOLD = new LinkedHashSet<>();

    private Edge() {
    }

    static Set<String> told() {
        return TOLD;
    }

    static void of(String section, String sentence, Runnable test) {
        String whole = section + " | " + sentence;
        TOLD.add(whole);
        Check.about(whole);
        int before = Check.asked();
        try {
            test.run();
        } catch (RuntimeException e) {
            Check.dueTrue("a test that ends without " + e + " at " + e.getStackTrace()[0], false);
        }
        Check.dueTrue("a test that asks something", Check.asked() > before);
        Check.about("");
    }

    /** A refused call throws what is due and changes nothing. */
    static void refused(CraneCampaign farm, String call, Class<? extends RuntimeException> want, Check.Call made) {
        long before = farm.digest();
        Check.dueThrow(call, want, made);
        Check.due("the digest after " + call, before, farm.digest());
    }

    /** The numbers low to high are taken by a fresh farm each, those beside them are refused. */
    static void range(int low, int high, Class<? extends RuntimeException> want, Supplier<CraneCampaign> fresh,
            WithNumber call) {
        for (int number = low; number <= high; number++) {
            int right = number;
            CraneCampaign farm = fresh.get();
            Check.dueNothingThrown("the call with " + number, () -> call.call(farm, right));
        }
        CraneCampaign farm = fresh.get();
        int[] wrong = {low - 1, high + 1, Integer.MIN_VALUE, Integer.MAX_VALUE};
        for (int number : wrong) {
            refused(farm, "the call with " + number, want, () -> call.call(farm, number));
        }
    }

    /** There are the turbines 0 to 2 of a farm of three, and no others; none at all in an empty farm. */
    static void turbineNumber(Class<? extends RuntimeException> want, WithNumber call) {
        range(0, 2, want, Farms::inUse, call);
        CraneCampaign empty = new CraneCampaign();
        refused(empty, "the call for turbine 0 of none", want, () -> call.call(empty, 0));
    }

    /** The change saves one state, which undo brings back; hours later nothing of the change shows. */
    static void undoable(Consumer<CraneCampaign> change) {
        undoable(Farms::inUse, change);
        undoable(Farms::onItsWay, change);
    }

    private static void undoable(Supplier<CraneCampaign> fresh, Consumer<CraneCampaign> change) {
        CraneCampaign farm = fresh.get();
        long before = farm.digest();
        int states = farm.count(14);
        change.accept(farm);
        Check.due("saved states after the change", states + 1, farm.count(14));
        Check.dueTrue("the change changes something", farm.digest() != before);
        Check.due("undo", states, farm.undo());
        Check.due("the digest after undo", before, farm.digest());
        CraneCampaign twin = fresh.get();
        Check.due("60 hours after undo", twin.pass(60), farm.pass(60));
        Check.due("the digest then", twin.digest(), farm.digest());
    }
}
