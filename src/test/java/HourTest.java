/** Promise 9, pass, and the terms of the section "An hour". */
public final class HourTest {
    public static void main(String[] args) {
        promise9Limits();
        promise9PowerAndCauses();
        fullPowerByWind();
        harbourUnloads();
        faultsWorsen();
        ageStaysWhileWorking();
        craneMoves();
        craneIsSentElsewhere();
        craneWithoutTarget();
        wayKeepsItsHours();
        workIsDone();
        workWaits();
        workIsForgotten();
        workIsForgottenForAnotherTarget();
        workStaysWithEmptyPlan();
        faultlessTargets();
        bladesAreUsedInOrder();
        weightsStayWithTheirBlades();
        Check.finish();
    }

    private static void promise9Limits() {
        CraneCampaign farm = new CraneCampaign();
        Check.badArgument("pass(0)", () -> farm.pass(0));
        Check.badArgument("pass(-1)", () -> farm.pass(-1));
        Check.badArgument("pass(201)", () -> farm.pass(201));
        Check.badArgument("pass(MAX)", () -> farm.pass(Integer.MAX_VALUE));
        for (int i = 0; i < 49; i++) {
            Check.due("pass(200) on an empty farm", 0, farm.pass(200));
        }
        farm.pass(199);
        Check.due("the hour", 9999, farm.count(2));
        Check.badState("pass(2) at 9999", () -> farm.pass(2));
        Check.badArgument("pass(201) at 9999", () -> farm.pass(201));
        Check.due("pass(1) at 9999", 0, farm.pass(1));
        Check.due("the last hour", 10000, farm.count(2));
        Check.badState("pass(1) at 10000", () -> farm.pass(1));
        Check.due("saved states", 6, farm.count(14));
        Check.due("undo is one call for all hours", 5, farm.undo());
        Check.due("the hour after undo", 9999, farm.count(2));
        farm.undo();
        Check.due("the hour after undo again", 9800, farm.count(2));
    }

    private static void promise9PowerAndCauses() {
        CraneCampaign farm = new CraneCampaign();
        farm.addTurbine(10, 100, 12);
        farm.addTurbine(20, 100, 7);
        farm.addTurbine(30, 100, 9);
        farm.setFault(0, 2);
        farm.setFault(1, 3);
        farm.plan(0, 0);
        // Wind 8: full powers 8, 4 and 6; the turbine 0 loses 4, the turbine 1 loses 4 * 3 / 4 = 3.
        Check.due("pass(1)", 7, farm.pass(1));
        Check.due("not served", 3, farm.claims(0));
        Check.due("moving", 4, farm.claims(1));
        Check.due("lost by 0", 4, farm.turbine(0, 8));
        Check.due("won by 0", 4, farm.turbine(0, 9));
        Check.due("lost by 1", 3, farm.turbine(1, 8));
        Check.due("won by 1", 1, farm.turbine(1, 9));
        Check.due("lost by 2", 0, farm.turbine(2, 8));
        Check.due("won by 2", 6, farm.turbine(2, 9));
        Check.due("pass(3)", 21, farm.pass(3));
        Check.due("moving, 2 hours in all", 8, farm.claims(1));
        Check.due("waiting for a blade, 2 hours", 8, farm.claims(2));
        farm.orderBlade(0);
        farm.set(0, 11);
        // The limit is 11 - 4 = 7 now, below the wind.
        Check.due("pass(2)", 14, farm.pass(2));
        Check.due("waiting for wind, 2 hours", 8, farm.claims(3));
        farm.set(0, 12);
        Check.due("pass(2), at work", 22, farm.pass(2));
        Check.due("at work all of its power is lost", 16, farm.claims(4));
        Check.due("power lost", 64, farm.count(11));
        Check.due("power won", 8 * 18 - 64, farm.count(12));
    }

    private static void fullPowerByWind() {
        CraneCampaign farm = new CraneCampaign();
        farm.addTurbine(10, 100, 7);
        Farms.winds(farm, "0,2,3,11,12,13,25,26,30");
        int[] full = {0, 0, 1, 6, 7, 7, 7, 0, 0};
        for (int hour = 0; hour < 18; hour++) {
            Check.due("full power in the hour " + hour, full[hour % 9], farm.turbine(0, 10));
            Check.due("nothing is lost in the hour " + hour, 0, farm.pass(1));
        }
        Check.due("won", 2 * 28, farm.turbine(0, 9));
        farm.addTurbine(20, 100, 50);
        Farms.winds(farm, "13");
        Check.due("no more than with the wind 12", 50, farm.turbine(1, 10));
    }

    private static void harbourUnloads() {
        CraneCampaign farm = new CraneCampaign();
        farm.addTurbine(10, 160, 12);
        farm.addTurbine(20, 59, 12);
        farm.set(5, 7);
        farm.orderBlade(0);
        farm.orderBlade(1);
        farm.orderBlade(1);
        int[][] weights = {{9, 5, 5}, {2, 5, 5}, {0, 0, 5}, {0, 0, 0}, {0, 0, 0}};
        int[] unloadedFor1 = {0, 0, 1, 2, 2};
        for (int hour = 0; hour < 5; hour++) {
            farm.pass(1);
            for (int i = 0; i < 3; i++) {
                Check.due("weight " + i + " after " + (hour + 1), weights[hour][i], farm.blade(i, 1));
            }
            Check.due("unloaded for 1 after " + (hour + 1), unloadedFor1[hour], farm.turbine(1, 7));
        }
        farm.set(5, 100);
        farm.orderBlade(0);
        farm.orderBlade(0);
        farm.pass(1);
        Check.due("two blades in one hour", 3, farm.turbine(0, 7));
    }

    private static void faultsWorsen() {
        CraneCampaign farm = Farms.withTurbines(2);
        farm.set(3, 3);
        farm.setFault(0, 1);
        int[] faults = {1, 1, 2, 2, 2, 3, 3, 3, 4, 4, 4, 4};
        int[] ages = {1, 2, 0, 1, 2, 0, 1, 2, 0, 0, 0, 0};
        for (int hour = 0; hour < 12; hour++) {
            farm.pass(1);
            Check.due("fault after " + (hour + 1), faults[hour], farm.turbine(0, 3));
            Check.due("age after " + (hour + 1), ages[hour], farm.turbine(0, 4));
            Check.due("fault of the other one", 0, farm.turbine(1, 3));
            Check.due("age of the other one", 0, farm.turbine(1, 4));
        }
        farm.setFault(0, 1);
        farm.set(3, 1);
        farm.pass(1);
        Check.due("a worsening of one hour", 2, farm.turbine(0, 3));
        farm.set(3, 100);
        farm.pass(50);
        farm.set(3, 10);
        farm.pass(1);
        Check.due("an age far above the worsening", 3, farm.turbine(0, 3));
        Check.due("the age is 0 then", 0, farm.turbine(0, 4));
        lossIsThatOfTheBeginning();
    }

    private static void lossIsThatOfTheBeginning() {
        CraneCampaign farm = Farms.withOne();
        farm.set(3, 1);
        farm.setFault(0, 1);
        Check.due("the fault 1 of the beginning", 2, farm.pass(1));
        Check.due("the fault 2 of the beginning", 4, farm.pass(1));
    }

    private static void ageStaysWhileWorking() {
        CraneCampaign farm = Farms.readyToServe(3);
        farm.pass(1);
        Check.due("the age after the way", 1, farm.turbine(0, 4));
        farm.pass(8);
        Check.due("the age after 8 hours of work", 1, farm.turbine(0, 4));
        Check.due("the fault after 8 hours of work", 3, farm.turbine(0, 3));
        farm.set(3, 1);
        farm.undo();
        farm.undo();
        farm.set(3, 1);
        farm.pass(1);
        // "then" is read as: after the age increased; in an hour of work it did not.
        Check.due("a lower worsening in an hour of work", 3, farm.turbine(0, 3));
        Check.due("the age is still 1", 1, farm.turbine(0, 4));
    }

    private static void craneMoves() {
        CraneCampaign farm = Farms.withTurbines(3);
        farm.setFault(1, 4);
        farm.setFault(2, 4);
        farm.plan(1, 0);
        // From 0 to 19: 4 hours.
        int[][] crane = {{0, 3, 1}, {0, 2, 1}, {0, 1, 1}, {19, 0, -1}, {19, 0, -1}};
        for (int hour = 0; hour < 5; hour++) {
            farm.pass(1);
            Check.due("place after " + (hour + 1), crane[hour][0], farm.count(7));
            Check.due("hours left after " + (hour + 1), crane[hour][1], farm.count(8));
            Check.due("goal after " + (hour + 1), crane[hour][2], farm.count(9));
        }
        farm.setBog(25, 4);
        farm.plan(2, 0);
        // From 19 to 28: 2 hours, and 2 more for the bog.
        farm.pass(1);
        Check.due("hours left from 19 to 28", 3, farm.count(8));
        Check.due("the place from which it set out", 19, farm.count(7));
        farm.pass(3);
        Check.due("the place at last", 28, farm.count(7));
        Check.due("claims of moving", 8 * 8, farm.claims(1));
    }

    private static void craneIsSentElsewhere() {
        CraneCampaign farm = Farms.withTurbines(4);
        for (int t = 0; t < 4; t++) {
            farm.setFault(t, 4);
        }
        farm.plan(0, 0);
        farm.pass(2);
        Check.due("it stands at 10", 10, farm.count(7));
        farm.plan(3, 0);
        farm.pass(2);
        Check.due("on its way to the turbine 3", 3, farm.count(9));
        Check.due("4 of the 6 hours are left", 4, farm.count(8));
        farm.plan(1, 0);
        farm.pass(1);
        Check.due("on its way to the turbine 1", 1, farm.count(9));
        Check.due("from where it set out", 10, farm.count(7));
        Check.due("one hour is left", 1, farm.count(8));
        farm.plan(0, 0);
        int moving = farm.claims(1);
        farm.pass(1);
        Check.due("back where it set out: it stands", -1, farm.count(9));
        Check.due("no hours are left", 0, farm.count(8));
        Check.due("and that was an hour of moving", moving + 8, farm.claims(1));
        int waiting = farm.claims(2);
        farm.pass(1);
        Check.due("the next hour is one of waiting", waiting + 8, farm.claims(2));
    }

    private static void craneWithoutTarget() {
        CraneCampaign farm = Farms.withTurbines(2);
        farm.setFault(1, 4);
        farm.plan(1, 0);
        farm.pass(1);
        Check.due("3 hours left", 3, farm.count(8));
        farm.unplan(1);
        farm.pass(10);
        Check.due("3 hours left still", 3, farm.count(8));
        Check.due("the goal is kept", 1, farm.count(9));
        Check.due("10 hours not served", 80, farm.claims(0));
        farm.plan(0, 0);
        farm.pass(1);
        Check.due("a target without a fault is dropped", 0, farm.count(5));
        Check.due("3 hours left even so", 3, farm.count(8));
        farm.plan(1, 0);
        farm.pass(1);
        Check.due("it goes on its way", 2, farm.count(8));
    }

    private static void wayKeepsItsHours() {
        CraneCampaign farm = Farms.withTurbines(2);
        farm.setFault(1, 4);
        farm.plan(1, 0);
        farm.pass(1);
        farm.set(1, 1);
        farm.setBog(5, 50);
        farm.pass(1);
        Check.due("a way that was begun keeps its hours", 2, farm.count(8));
        farm.plan(0, 0);
        farm.setFault(0, 1);
        farm.pass(1);
        Check.due("a new way takes the new ones", 10 + 2 - 1, farm.count(8));
    }

    private static void workIsDone() {
        CraneCampaign farm = Farms.readyToServe(2);
        farm.set(2, 4);
        farm.pass(1);
        Check.due("no work on the way", 0, farm.count(10));
        for (int hour = 1; hour < 8; hour++) {
            Check.due("an hour of work loses all", 8, farm.pass(1));
            Check.due("hours of work", hour, farm.count(10));
            Check.due("the fault is there", 2, farm.turbine(0, 3));
        }
        Check.due("the last hour of work loses all, too", 8, farm.pass(1));
        Check.due("the fault is gone", 0, farm.turbine(0, 3));
        Check.due("the age is 0", 0, farm.turbine(0, 4));
        Check.due("the blade is used", 0, farm.count(13));
        Check.due("the plan is empty", 0, farm.count(5));
        Check.due("no hours of work", 0, farm.count(10));
        Check.due("claims of work", 64, farm.claims(4));
        Check.due("nothing is lost then", 0, farm.pass(1));
        farm.setFault(0, 1);
        farm.orderBlade(0);
        farm.plan(0, 0);
        farm.pass(1);
        Check.due("the work begins anew", 1, farm.count(10));
    }

    private static void workWaits() {
        CraneCampaign farm = Farms.readyToServe(1);
        Farms.winds(farm, "8,12,13,12,13,8");
        // The limit is 12: moving, work, wind, work, wind, work.
        farm.pass(5);
        Check.due("two hours of work", 2, farm.count(10));
        farm.pass(1);
        Check.due("done in the sixth hour", 0, farm.turbine(0, 3));
        Check.due("claims of waiting for wind", 6, farm.claims(3));
        CraneCampaign other = Farms.withOne();
        other.set(1, 20);
        other.set(5, 3);
        other.setFault(0, 1);
        other.orderBlade(0);
        other.plan(0, 0);
        other.pass(3);
        Check.due("one tonne is left", 1, other.blade(0, 1));
        Check.due("two hours of waiting for the blade", 4, other.claims(2));
        other.pass(1);
        Check.due("work begins in the hour that unloads the blade", 1, other.count(10));
    }

    private static void workIsForgotten() {
        CraneCampaign farm = Farms.readyToServe(4);
        farm.addTurbine(20, 50, 12);
        farm.pass(3);
        Check.due("two hours of work", 2, farm.count(10));
        farm.plan(1, 0);
        Check.due("they were done on another one", 0, farm.count(10));
        farm.plan(0, 0);
        Check.due("no hour passed: they are still there", 2, farm.count(10));
        farm.plan(1, 0);
        farm.pass(1);
        Check.dueTrue("a target without a fault is dropped", Farms.plan(farm).equals("0"));
        Check.due("the work was forgotten by it, and began anew", 1, farm.count(10));
        farm.pass(2);
        farm.setFault(0, 0);
        Check.due("the hours of work are there after setFault", 3, farm.count(10));
        farm.pass(1);
        Check.due("the target is dropped", 0, farm.count(5));
        farm.setFault(0, 2);
        farm.plan(0, 0);
        Check.due("the work on it is forgotten", 0, farm.count(10));
    }

    private static void workIsForgottenForAnotherTarget() {
        CraneCampaign farm = Farms.readyToServe(4);
        farm.addTurbine(20, 50, 12);
        farm.setFault(1, 1);
        farm.pass(3);
        farm.plan(1, 0);
        farm.pass(1);
        farm.plan(0, 0);
        Check.due("forgotten by an hour with another target", 0, farm.count(10));
        farm.undo();
        farm.undo();
        farm.undo();
        Check.due("two hours of work after undo", 2, farm.count(10));
        farm.plan(1, 0);
        farm.unplan(0);
        farm.pass(1);
        farm.plan(0, 0);
        Check.due("forgotten, as well, with another target alone", 0, farm.count(10));
    }

    private static void workStaysWithEmptyPlan() {
        CraneCampaign farm = Farms.readyToServe(2);
        farm.addTurbine(20, 50, 12);
        farm.pass(4);
        Check.due("three hours of work", 3, farm.count(10));
        farm.unplan(0);
        Check.due("none with an empty plan", 0, farm.count(10));
        farm.setFault(0, 0);
        farm.pass(5);
        farm.setFault(0, 1);
        farm.plan(0, 0);
        Check.due("they stay with an empty plan", 3, farm.count(10));
        farm.pass(1);
        Check.due("4 hours are more than enough for the fault 1", 0, farm.turbine(0, 3));
        Check.due("the blade is used", 0, farm.count(13));
    }

    private static void faultlessTargets() {
        CraneCampaign farm = Farms.withTurbines(4);
        farm.setFault(2, 1);
        for (int t = 0; t < 4; t++) {
            farm.plan(t, t);
        }
        farm.pass(1);
        Check.dueTrue("both first ones are dropped, the last one stays", Farms.plan(farm).equals("23"));
        Check.due("no hour passed by that", 2, farm.count(9));
        Check.due("6 hours from 0 to 28", 5, farm.count(8));
        Check.due("the cause is moving", 2, farm.claims(1));
        CraneCampaign none = Farms.withTurbines(10);
        for (int t = 0; t < 10; t++) {
            none.plan(t, t);
        }
        none.pass(1);
        Check.due("all ten are dropped", 0, none.count(5));
        Check.due("the crane stands", 0, none.count(7));
    }

    private static void bladesAreUsedInOrder() {
        CraneCampaign farm = new CraneCampaign();
        farm.addTurbine(5, 50, 12);
        farm.addTurbine(6, 60, 12);
        farm.set(2, 1);
        farm.set(5, 100);
        int[] orders = {1, 0, 1, 0};
        for (int order : orders) {
            farm.orderBlade(order);
        }
        farm.setFault(0, 1);
        farm.setFault(1, 1);
        farm.plan(0, 0);
        farm.plan(1, 1);
        farm.pass(2);
        int[] left = {1, 1, 0};
        Check.due("blades left", 3, farm.count(13));
        for (int i = 0; i < 3; i++) {
            Check.due("blade " + i, left[i], farm.blade(i, 0));
        }
        farm.pass(2);
        Check.due("blades left then", 2, farm.count(13));
        Check.due("the blade of 1", 1, farm.blade(0, 0));
        Check.due("the blade of 0", 0, farm.blade(1, 0));
        Check.due("faults left", 0, farm.count(1));
    }

    private static void weightsStayWithTheirBlades() {
        CraneCampaign farm = Farms.readyToServe(1);
        farm.addTurbine(20, 150, 12);
        farm.set(5, 12);
        farm.orderBlade(1);
        farm.orderBlade(0);
        farm.set(2, 1);
        farm.pass(1);
        farm.set(5, 1);
        farm.pass(1);
        Check.due("the blade is used", 2, farm.count(13));
        Check.due("weight of the next one", 15 - 3, farm.blade(0, 1));
        Check.due("weight of the last one", 10, farm.blade(1, 1));
    }
}
