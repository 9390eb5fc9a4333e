import java.util.List;
import java.util.function.Consumer;

/** The boundary cases of undo (promise 14), of the exceptions and of the face. */
final class UndoEdges {
    private UndoEdges() {
    }

    static void run() {
        Edge.of("Undo", "Each method that is marked \"undoable\" and does not throw an exception saves the state from "
                + "before it (also if it changes nothing): all but the buffer and the saved states.",
                UndoEdges::savedStates);
        Edge.of("Undo", "At most 6 states are saved; the oldest one is dropped first.", UndoEdges::sixStates);
        Edge.of("Exceptions", "A call that throws an exception changes nothing.", UndoEdges::refusedCalls);
        Edge.of("Exceptions", "If several exceptions apply, the one that is named first in the throws clause is "
                + "thrown.", UndoEdges::severalExceptions);
        Edge.of("Exceptions", "The constants: NONE = -1: There is nothing to return.", UndoEdges::nothingToReturn);
        Edge.of("Exceptions", "Ahead of the calls way, ifPassed, bestFirst, window, doneIn, meanWind, lostShare, "
                + "digest the interface says: ---- what would be; nothing is changed.", UndoEdges::questions);
        Edge.of("Promise 14", "Restores the latest saved state, and drops it.", UndoEdges::latestState);
        Edge.of("Promise 14", "Returns how many saved states are left.", () -> {
            CraneCampaign farm = new CraneCampaign();
            for (int i = 0; i < 8; i++) {
                farm.set(6, i);
            }
            for (int left = 5; left >= 0; left--) {
                Check.due("states that are left", left, farm.undo());
                Check.due("count(14)", left, farm.count(14));
            }
        });
        Edge.of("Promise 14", "Throws IllegalStateException if there is none", () -> {
            CraneCampaign farm = new CraneCampaign();
            Edge.refused(farm, "undo of a new object", Edge.STATE, () -> farm.undo());
            Farms.write(farm, "5");
            farm.firstError();
            Edge.refused(farm, "undo behind append", Edge.STATE, () -> farm.undo());
            farm.load();
            Check.due("undo of load", 0, farm.undo());
            Edge.refused(farm, "undo again", Edge.STATE, () -> farm.undo());
            for (int i = 0; i < 7; i++) {
                farm.set(6, i);
            }
            for (int i = 0; i < 6; i++) {
                farm.undo();
            }
            Edge.refused(farm, "a seventh undo", Edge.STATE, () -> farm.undo());
        });
    }

    private static void savesOne(String call, Consumer<CraneCampaign> change, int more) {
        CraneCampaign farm = Farms.inUse();
        int states = farm.count(14);
        change.accept(farm);
        Check.due("states saved by " + call, states + more, farm.count(14));
    }

    private static void savedStates() {
        savesOne("a fault that was there", farm -> farm.setFault(1, 0), 1);
        savesOne("no bog where none was", farm -> farm.setBog(77, 0), 1);
        savesOne("the need that was there", farm -> farm.setBog(15, 3), 1);
        savesOne("the value that was there", farm -> farm.set(0, 16), 1);
        savesOne("the place that it had", farm -> farm.plan(0, 0), 1);
        savesOne("an hour", farm -> farm.pass(1), 1);
        savesOne("the same winds", farm -> Farms.winds(farm, "8,12,14,5"), 1);
        savesOne("append", farm -> farm.append(33), 0);
        savesOne("clearBuffer", farm -> farm.clearBuffer(), 0);
        savesOne("firstError", farm -> farm.firstError(), 0);
        savesOne("undo", farm -> farm.undo(), -1);
        CraneCampaign farm = Farms.inUse();
        long before = farm.digest();
        int states = farm.count(14);
        farm.setFault(1, 0);
        farm.setBog(77, 0);
        farm.plan(0, 0);
        for (int i = 0; i < 3; i++) {
            farm.undo();
        }
        Check.due("states as before", states, farm.count(14));
        Check.due("the digest as before", before, farm.digest());
        bufferIsNotSaved();
    }

    private static void bufferIsNotSaved() {
        CraneCampaign farm = new CraneCampaign();
        Farms.write(farm, "1,2");
        farm.set(6, 1);
        farm.clearBuffer();
        farm.undo();
        Check.due("undo does not bring back a text", 0, farm.clearBuffer());
        farm.set(6, 1);
        Farms.write(farm, "1,2,3");
        farm.undo();
        Check.due("undo does not take away a text", 5, farm.firstError());
        Check.due("it can still be loaded", 3, farm.load());
    }

    private static void sixStates() {
        for (int changes = 1; changes <= 20; changes++) {
            CraneCampaign farm = new CraneCampaign();
            for (int i = 1; i <= changes; i++) {
                farm.set(6, i);
                Check.due("states after " + i, Math.min(i, 6), farm.count(14));
            }
            int states = farm.count(14);
            for (int i = 1; i <= states; i++) {
                farm.undo();
                Check.due("the state " + i + " before the last of " + changes, changes - i, farm.setting(6));
            }
            Edge.refused(farm, "undo of a state that was dropped", Edge.STATE, () -> farm.undo());
        }
        CraneCampaign farm = Farms.crowded();
        Check.due("six states with much in each", 6, farm.count(14));
        for (int t = 9; t > 3; t--) {
            farm.undo();
        }
        Check.due("six calls less: the plan of the turbines 0 to 7", 8, farm.count(5));
    }

    private static void latestState() {
        CraneCampaign farm = new CraneCampaign();
        farm.set(6, 1);
        farm.set(6, 2);
        farm.undo();
        Check.due("the latest state", 1, farm.setting(6));
        farm.set(6, 3);
        farm.set(6, 4);
        farm.undo();
        Check.due("the latest state again", 3, farm.setting(6));
        farm.undo();
        Check.due("the one before: what was undone is dropped", 1, farm.setting(6));
        farm.undo();
        Check.due("the first one", 0, farm.setting(6));
        CraneCampaign many = new CraneCampaign();
        int[] values = {1, 2, 3, 4, 5, 6, 7, 8};
        for (int round = 0; round < 5; round++) {
            for (int value : values) {
                many.set(6, value);
            }
            for (int i = 0; i < 4; i++) {
                many.undo();
            }
            Check.due("four of eight are left", 4, many.setting(6));
            Check.due("two states are left", 2, many.count(14));
        }
    }

    private static void refusedCalls() {
        CraneCampaign farm = Farms.crowded();
        int taken = farm.turbine(0, 0);
        Edge.refused(farm, "addTurbine of a wrong place", Edge.ARGUMENT, () -> farm.addTurbine(0, 50, 1));
        Edge.refused(farm, "addTurbine of an eleventh", Edge.STATE, () -> farm.addTurbine(98, 50, 1));
        Edge.refused(farm, "addTurbine at a taken place", Edge.STATE, () -> farm.addTurbine(taken, 50, 1));
        Edge.refused(farm, "setFault of none", Edge.INDEX, () -> farm.setFault(10, 1));
        Edge.refused(farm, "setFault of a wrong fault", Edge.ARGUMENT, () -> farm.setFault(0, 5));
        Edge.refused(farm, "setBog at a wrong place", Edge.ARGUMENT, () -> farm.setBog(0, 1));
        Edge.refused(farm, "setBog of a seventh", Edge.STATE, () -> farm.setBog(1, 1));
        Edge.refused(farm, "set of none", Edge.INDEX, () -> farm.set(7, 1));
        Edge.refused(farm, "set of a wrong value", Edge.ARGUMENT, () -> farm.set(1, 0));
        Edge.refused(farm, "plan of none", Edge.INDEX, () -> farm.plan(10, 0));
        Edge.refused(farm, "plan at no place", Edge.INDEX, () -> farm.plan(0, 10));
        Edge.refused(farm, "unplan of none", Edge.INDEX, () -> farm.unplan(10));
        Edge.refused(farm, "orderBlade for none", Edge.INDEX, () -> farm.orderBlade(10));
        Edge.refused(farm, "orderBlade of an eleventh", Edge.STATE, () -> farm.orderBlade(0));
        Edge.refused(farm, "pass of no hours", Edge.ARGUMENT, () -> farm.pass(0));
        Edge.refused(farm, "append of a blank", Edge.ARGUMENT, () -> farm.append(' '));
        Edge.refused(farm, "append of a character 61", Edge.STATE, () -> farm.append('1'));
        Edge.refused(farm, "load of no row", Edge.ARGUMENT, () -> farm.load());
        refusedQuestions(farm);
        farm.unplan(3);
        Edge.refused(farm, "unplan of one that is not in the plan", Edge.STATE, () -> farm.unplan(3));
        farm.undo();
        Check.due("undo behind all of them brings back the last change", 10, farm.count(5));
        farm.undo();
        Check.due("and then the one before", 9, farm.count(5));
    }

    private static void refusedQuestions(CraneCampaign farm) {
        Edge.refused(farm, "turbine of none", Edge.INDEX, () -> farm.turbine(10, 0));
        Edge.refused(farm, "turbine of no property", Edge.ARGUMENT, () -> farm.turbine(0, 11));
        Edge.refused(farm, "blade of none", Edge.INDEX, () -> farm.blade(10, 0));
        Edge.refused(farm, "blade of no property", Edge.ARGUMENT, () -> farm.blade(0, 2));
        Edge.refused(farm, "bog of none", Edge.INDEX, () -> farm.bog(6, 0));
        Edge.refused(farm, "bog of no property", Edge.ARGUMENT, () -> farm.bog(0, 2));
        Edge.refused(farm, "claims of none", Edge.ARGUMENT, () -> farm.claims(5));
        Edge.refused(farm, "count of none", Edge.ARGUMENT, () -> farm.count(15));
        Edge.refused(farm, "setting of none", Edge.INDEX, () -> farm.setting(7));
        Edge.refused(farm, "way to nowhere", Edge.ARGUMENT, () -> farm.way(0, 100));
        Edge.refused(farm, "ifPassed of no hours", Edge.ARGUMENT, () -> farm.ifPassed(0, 0));
        Edge.refused(farm, "window of none", Edge.INDEX, () -> farm.window(10, 1));
        Edge.refused(farm, "window of no hours", Edge.ARGUMENT, () -> farm.window(0, 0));
    }

    private static void severalExceptions() {
        CraneCampaign farm = Farms.crowded();
        Edge.refused(farm, "addTurbine, wrong, and an eleventh", Edge.ARGUMENT, () -> farm.addTurbine(98, 49, 1));
        Edge.refused(farm, "addTurbine, wrong, at a taken place", Edge.ARGUMENT, () -> farm.addTurbine(9, 50, 0));
        Edge.refused(farm, "setFault, no turbine and wrong", Edge.INDEX, () -> farm.setFault(10, 5));
        Edge.refused(farm, "setBog, wrong, and a seventh", Edge.ARGUMENT, () -> farm.setBog(1, 51));
        Edge.refused(farm, "set, no setting and wrong", Edge.INDEX, () -> farm.set(7, -1));
        Edge.refused(farm, "unplan, no turbine, not in the plan", Edge.INDEX, () -> farm.unplan(-1));
        Edge.refused(farm, "orderBlade, no turbine, an eleventh", Edge.INDEX, () -> farm.orderBlade(10));
        Edge.refused(farm, "append, wrong, a character 61", Edge.ARGUMENT, () -> farm.append(127));
        Edge.refused(farm, "load, no row, too long", Edge.ARGUMENT, () -> farm.load());
        Edge.refused(farm, "turbine, none and no property", Edge.INDEX, () -> farm.turbine(-1, -1));
        Edge.refused(farm, "blade, none and no property", Edge.INDEX, () -> farm.blade(10, 2));
        Edge.refused(farm, "bog, none and no property", Edge.INDEX, () -> farm.bog(6, -1));
        Edge.refused(farm, "window, no turbine and wrong hours", Edge.INDEX, () -> farm.window(10, 25));
        CraneCampaign late = new CraneCampaign();
        for (int i = 0; i < 50; i++) {
            late.pass(200);
        }
        Edge.refused(late, "pass, wrong, above the hour 10000", Edge.ARGUMENT, () -> late.pass(201));
    }

    private static void nothingToReturn() {
        Check.due("NONE", -1, CraneCampaign.NONE);
        CraneCampaign farm = Farms.withOne();
        Farms.winds(farm, "30");
        Check.due("a turbine's place in the plan", CraneCampaign.NONE, farm.turbine(0, 6));
        Check.due("the first one of the plan", CraneCampaign.NONE, farm.count(6));
        Check.due("the goal of the crane", CraneCampaign.NONE, farm.count(9));
        Check.due("bestFirst", CraneCampaign.NONE, farm.bestFirst());
        Check.due("window", CraneCampaign.NONE, farm.window(0, 1));
        farm.plan(0, 0);
        farm.setFault(0, 1);
        Check.due("doneIn", CraneCampaign.NONE, farm.doneIn());
    }

    private static void questions() {
        CraneCampaign farm = Farms.inUse();
        long before = farm.digest();
        for (Consumer<CraneCampaign> question : everyQuestion()) {
            question.accept(farm);
            Check.due("the digest behind a question", before, farm.digest());
        }
        CraneCampaign twin = Farms.inUse();
        farm.undo();
        twin.undo();
        Check.due("the state that undo brings back", twin.digest(), farm.digest());
        Check.due("hours behind the questions", twin.pass(100), farm.pass(100));
        Check.due("the digest behind these hours", twin.digest(), farm.digest());
    }

    private static List<Consumer<CraneCampaign>> everyQuestion() {
        return List.of(
                farm -> farm.way(0, 99),
                farm -> farm.ifPassed(200, 5),
                farm -> farm.bestFirst(),
                farm -> farm.window(0, 24),
                farm -> farm.doneIn(),
                farm -> farm.meanWind(),
                farm -> farm.lostShare(),
                farm -> farm.digest());
    }
}
