/** Promises 6 to 8: plan, unplan, orderBlade. */
public final class PlanTest {
    public static void main(String[] args) {
        promise6Plan();
        promise6FullPlan();
        promise7Unplan();
        promise8OrderBlade();
        Check.finish();
    }

    private static void promise6Plan() {
        CraneCampaign farm = Farms.withTurbines(4);
        Check.outOfBounds("plan(0, 1) into an empty plan", () -> farm.plan(0, 1));
        Check.due("plan(0, 0)", 1, farm.plan(0, 0));
        Check.outOfBounds("plan(0, 1), where no other one is", () -> farm.plan(0, 1));
        Check.due("plan(0, 0) again", 1, farm.plan(0, 0));
        Check.due("plan(1, 1)", 2, farm.plan(1, 1));
        Check.due("plan(2, 0)", 3, farm.plan(2, 0));
        Check.due("plan(3, 1)", 4, farm.plan(3, 1));
        Check.dueTrue("2301 is the plan", Farms.plan(farm).equals("2301"));
        Check.due("plan(2, 3): to the end", 4, farm.plan(2, 3));
        Check.dueTrue("3012 is the plan", Farms.plan(farm).equals("3012"));
        Check.due("plan(1, 0): to the beginning", 4, farm.plan(1, 0));
        Check.dueTrue("1302 is the plan", Farms.plan(farm).equals("1302"));
        Check.due("plan(3, 2)", 4, farm.plan(3, 2));
        Check.dueTrue("1032 is the plan", Farms.plan(farm).equals("1032"));
        Check.due("plan(0, 1): where it is", 4, farm.plan(0, 1));
        Check.dueTrue("1032 is the plan still", Farms.plan(farm).equals("1032"));
        Check.due("the first one", 1, farm.count(6));
        Check.outOfBounds("plan(0, 4)", () -> farm.plan(0, 4));
        Check.outOfBounds("plan(0, -1)", () -> farm.plan(0, -1));
        Check.outOfBounds("plan(4, 0)", () -> farm.plan(4, 0));
        Check.outOfBounds("plan(-1, 0)", () -> farm.plan(-1, 0));
        Check.outOfBounds("plan(0, MAX)", () -> farm.plan(0, Integer.MAX_VALUE));
        Check.dueTrue("exceptions change nothing", Farms.plan(farm).equals("1032"));
        farm.undo();
        farm.undo();
        Check.dueTrue("1302 is the plan after undo", Farms.plan(farm).equals("1302"));
    }

    private static void promise6FullPlan() {
        CraneCampaign farm = Farms.withTurbines(10);
        for (int i = 0; i < 10; i++) {
            Check.due("plan(" + i + ", 0)", i + 1, farm.plan(i, 0));
        }
        Check.due("plan(9, 9)", 10, farm.plan(9, 9));
        Check.outOfBounds("plan(9, 10)", () -> farm.plan(9, 10));
        Check.dueTrue("the full plan", Farms.plan(farm).equals("8765432109"));
        Check.due("a fault is not asked for", 0, farm.count(1));
    }

    private static void promise7Unplan() {
        CraneCampaign farm = Farms.withTurbines(3);
        Check.badState("unplan(0) in an empty plan", () -> farm.unplan(0));
        farm.plan(2, 0);
        farm.plan(0, 1);
        farm.plan(1, 2);
        Check.due("unplan(0)", 1, farm.unplan(0));
        Check.dueTrue("21 is the plan", Farms.plan(farm).equals("21"));
        int states = farm.count(14);
        Check.badState("unplan(0) again", () -> farm.unplan(0));
        Check.outOfBounds("unplan(3)", () -> farm.unplan(3));
        Check.outOfBounds("unplan(-1)", () -> farm.unplan(-1));
        Check.due("saved states after exceptions", states, farm.count(14));
        Check.due("unplan(1)", 1, farm.unplan(1));
        Check.due("unplan(2)", 0, farm.unplan(2));
        Check.due("the plan is empty", 0, farm.count(5));
        Check.due("no first one", -1, farm.count(6));
        farm.undo();
        farm.undo();
        farm.undo();
        Check.dueTrue("201 is the plan after undo", Farms.plan(farm).equals("201"));
    }

    private static void promise8OrderBlade() {
        CraneCampaign farm = new CraneCampaign();
        farm.addTurbine(10, 59, 12);
        farm.addTurbine(20, 160, 12);
        Check.due("orderBlade(1)", 1, farm.orderBlade(1));
        Check.due("orderBlade(0)", 2, farm.orderBlade(0));
        Check.due("the first blade", 1, farm.blade(0, 0));
        Check.due("its weight", 16, farm.blade(0, 1));
        Check.due("the second blade", 0, farm.blade(1, 0));
        Check.due("its weight", 5, farm.blade(1, 1));
        Check.outOfBounds("orderBlade(2)", () -> farm.orderBlade(2));
        Check.outOfBounds("orderBlade(-1)", () -> farm.orderBlade(-1));
        for (int i = 3; i <= 10; i++) {
            Check.due("blade " + i, i, farm.orderBlade(0));
        }
        Check.badState("the blade 11", () -> farm.orderBlade(0));
        Check.outOfBounds("the blade 11 for no turbine", () -> farm.orderBlade(2));
        farm.undo();
        Check.due("blades after undo", 9, farm.count(13));
        Check.due("a blade again", 10, farm.orderBlade(1));
        Check.due("it is for the turbine 1", 1, farm.blade(9, 0));
        usedBladeMakesRoom();
    }

    private static void usedBladeMakesRoom() {
        CraneCampaign farm = Farms.readyToServe(1);
        farm.set(5, 100);
        for (int i = 2; i <= 10; i++) {
            farm.orderBlade(0);
        }
        farm.pass(4);
        Check.due("blades after one was used", 9, farm.count(13));
        Check.due("orderBlade after one was used", 10, farm.orderBlade(0));
        farm.undo();
        farm.undo();
        Check.due("blades after undo of the hours", 10, farm.count(13));
        for (int i = 0; i < 10; i++) {
            Check.due("weight " + i + " after undo of the hours", 10, farm.blade(i, 1));
        }
    }
}
