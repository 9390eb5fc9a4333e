/** The boundary cases of what happens in an hour: harbour, plan, crane and work. */
final class HourEdges {
    private HourEdges() {
    }

    static void run() {
        Edge.of("An hour", "The harbour unloads.", HourEdges::harbourComesFirst);
        Edge.of("An hour", "Targets that have no fault are taken off the plan, from its beginning, as long as the "
                + "first one has none (no hour passes by that, and work that was done on them is forgotten).",
                HourEdges::faultlessTargets);
        Edge.of("An hour", "If no target is left then, the crane does nothing (also on its way).",
                HourEdges::noTarget);
        Edge.of("An hour", "If the crane is on its way to this target, the hours that are left become 1 less.",
                HourEdges::onItsWay);
        Edge.of("An hour", "If it is on its way to another place (as the plan was changed), or stands at a place "
                + "that is not that of the target, it begins a way from the place from which it set out (or where it "
                + "stands): the hours that are left become those that the way takes, less 1, but at least 0.",
                HourEdges::beginsAWay);
        Edge.of("An hour", "If 0 are left then (in either case), it stands at the place of the target from now on.",
                HourEdges::arrives);
        Edge.of("An hour", "This was an hour of moving.", HourEdges::hourOfMoving);
        Edge.of("An hour", "Otherwise it stands at the place of the target.", HourEdges::standsThere);
        Edge.of("An hour", "If no blade for this turbine is unloaded, this is an hour of waiting for the blade.",
                HourEdges::waitsForTheBlade);
        Edge.of("An hour", "Otherwise, if the wind is greater than the limit of the turbine, it is an hour of waiting "
                + "for the wind.", HourEdges::waitsForTheWind);
        Edge.of("An hour", "Otherwise it is an hour of work: the hours of work done on this turbine become 1 more; "
                + "if they are work * fault or more then, the fault and the age become 0 behind part 3 of this hour, "
                + "the first unloaded blade for it is used, the hours of work become 0, and the target is taken off "
                + "the plan.", HourEdges::hourOfWork);
        Edge.of("An hour", "The hours of work done belong to the present target; if the first turbine of the plan "
                + "(with a fault or not) is another one, they become 0 at the beginning of part 2; with an empty plan "
                + "they stay.", HourEdges::whoseWorkItIs);
    }

    private static void craneIs(CraneCampaign farm, int place, int hoursLeft, int goal) {
        Check.due("the place of the crane in the hour " + farm.count(2), place, farm.count(7));
        Check.due("the hours left in the hour " + farm.count(2), hoursLeft, farm.count(8));
        Check.due("the goal of the crane in the hour " + farm.count(2), goal, farm.count(9));
    }

    private static void claimsAre(CraneCampaign farm, int... claims) {
        for (int cause = 0; cause < 5; cause++) {
            Check.due("claims(" + cause + ") in the hour " + farm.count(2), claims[cause], farm.claims(cause));
        }
    }

    /** Turbines at 10, 19, 28 .. that all have the fault 4, and lose 8 in an hour each. */
    private static CraneCampaign allBroken(int turbines) {
        CraneCampaign farm = Farms.withTurbines(turbines);
        for (int t = 0; t < turbines; t++) {
            farm.setFault(t, 4);
        }
        return farm;
    }

    private static void harbourComesFirst() {
        CraneCampaign farm = Farms.withOne();
        farm.set(1, 20);
        farm.set(2, 1);
        farm.setFault(0, 1);
        farm.plan(0, 0);
        farm.pass(1);
        farm.orderBlade(0);
        farm.pass(1);
        Check.due("the blade of 10 tonnes is unloaded and used in the same hour", 0, farm.count(13));
        Check.due("the fault is gone", 0, farm.turbine(0, 3));
        CraneCampaign idle = Farms.withOne();
        idle.orderBlade(0);
        idle.pass(1);
        Check.due("it unloads without a plan, too", 0, idle.blade(0, 1));
        idle.pass(1);
        Check.due("it has nothing to unload then", 0, idle.blade(0, 1));
    }

    private static void faultlessTargets() {
        CraneCampaign farm = Farms.withTurbines(10);
        farm.setFault(3, 1);
        for (int t = 0; t < 10; t++) {
            farm.plan(t, t);
        }
        farm.pass(1);
        Check.dueTrue("3456789 is the plan", Farms.plan(farm).equals("3456789"));
        Check.due("no hour passes by that: the crane is on its way", 3, farm.count(9));
        Check.due("one of the 8 hours to 37 is over", 7, farm.count(8));
        farm.setFault(3, 0);
        farm.pass(1);
        Check.due("all are taken off", 0, farm.count(5));
        Check.due("one hour passed", 2, farm.count(2));
        CraneCampaign ten = Farms.withTurbines(10);
        for (int t = 0; t < 10; t++) {
            ten.plan(t, 0);
        }
        ten.pass(1);
        Check.due("ten are taken off in one hour", 0, ten.count(5));
        faultlessBehindTheTarget();
        workOnFaultless();
    }

    private static void faultlessBehindTheTarget() {
        CraneCampaign farm = Farms.readyToServe(1);
        farm.addTurbine(20, 50, 12);
        farm.addTurbine(30, 50, 12);
        farm.setFault(2, 1);
        farm.plan(1, 1);
        farm.plan(2, 2);
        farm.pass(4);
        Check.dueTrue("a faultless one behind the target stays, also as that is done",
                Farms.plan(farm).equals("12"));
        farm.pass(1);
        Check.dueTrue("until it is the first one", Farms.plan(farm).equals("2"));
    }

    private static void workOnFaultless() {
        CraneCampaign farm = Farms.readyToServe(4);
        farm.pass(3);
        farm.setFault(0, 0);
        Check.due("two hours of work before the hour", 2, farm.count(10));
        farm.pass(1);
        farm.setFault(0, 4);
        farm.plan(0, 0);
        Check.due("none behind it", 0, farm.count(10));
        farm.pass(11);
        Check.due("11 of 12 hours of work", 11, farm.count(10));
        Check.due("the fault is still there", 4, farm.turbine(0, 3));
        farm.pass(1);
        Check.due("12 of 12 hours", 0, farm.turbine(0, 3));
    }

    private static void noTarget() {
        CraneCampaign farm = allBroken(2);
        farm.pass(1);
        craneIs(farm, 0, 0, -1);
        farm.plan(1, 0);
        farm.pass(1);
        craneIs(farm, 0, 3, 1);
        farm.unplan(1);
        farm.pass(200);
        craneIs(farm, 0, 3, 1);
        farm.plan(0, 0);
        farm.setFault(0, 0);
        farm.pass(1);
        craneIs(farm, 0, 3, 1);
        Check.due("the plan is empty", 0, farm.count(5));
        farm.plan(1, 0);
        farm.pass(3);
        craneIs(farm, 19, 0, -1);
        claimsAre(farm, 16 + 8 + 200 * 16 + 8, 8 + 3 * 8, 0, 0, 0);
    }

    private static void onItsWay() {
        CraneCampaign farm = allBroken(2);
        farm.plan(1, 0);
        int[] hoursLeft = {3, 2, 1};
        for (int hours : hoursLeft) {
            farm.pass(1);
            craneIs(farm, 0, hours, 1);
        }
        farm.set(1, 1);
        farm.setBog(5, 50);
        farm.pass(1);
        craneIs(farm, 19, 0, -1);
    }

    private static void beginsAWay() {
        CraneCampaign farm = allBroken(4);
        farm.plan(0, 0);
        farm.pass(2);
        craneIs(farm, 10, 0, -1);
        farm.plan(3, 0);
        farm.pass(2);
        craneIs(farm, 10, 4, 3);
        // From 10 to 19 it takes 2 hours, though the crane was on its way for 2 hours.
        farm.plan(1, 0);
        farm.pass(1);
        craneIs(farm, 10, 1, 1);
        farm.setBog(15, 1);
        farm.plan(2, 0);
        farm.pass(1);
        craneIs(farm, 10, 4 + 2 - 1, 2);
        // Back to where it set out takes 0 hours, less 1 is at least 0.
        farm.plan(0, 0);
        farm.pass(1);
        craneIs(farm, 10, 0, -1);
        Check.due("all of these were hours of moving", 7 * 8, farm.claims(1));
        farm.pass(1);
        Check.due("the next one is not", 7 * 8, farm.claims(1));
    }

    private static void arrives() {
        CraneCampaign farm = allBroken(2);
        farm.plan(1, 0);
        farm.pass(3);
        craneIs(farm, 0, 1, 1);
        farm.pass(1);
        craneIs(farm, 19, 0, -1);
        CraneCampaign atOnce = allBroken(1);
        atOnce.set(1, 20);
        atOnce.plan(0, 0);
        atOnce.pass(1);
        craneIs(atOnce, 10, 0, -1);
        atOnce.unplan(0);
        atOnce.pass(5);
        craneIs(atOnce, 10, 0, -1);
    }

    private static void hourOfMoving() {
        CraneCampaign farm = Farms.readyToServe(4);
        farm.pass(1);
        Check.due("a way of one hour is an hour of moving", 8, farm.claims(1));
        Check.due("no work in it", 0, farm.count(10));
        farm.pass(1);
        claimsAre(farm, 0, 8, 0, 0, 8);
        CraneCampaign windy = Farms.readyToServe(4);
        windy.set(0, 5);
        windy.set(5, 1);
        windy.pass(1);
        claimsAre(windy, 0, 8, 0, 0, 0);
    }

    private static void standsThere() {
        CraneCampaign farm = Farms.readyToServe(1);
        farm.addTurbine(20, 50, 12);
        farm.pass(1);
        farm.unplan(0);
        farm.pass(1);
        farm.plan(0, 0);
        farm.pass(1);
        Check.due("it stands there already: work", 1, farm.count(10));
        farm.setBog(5, 1);
        farm.set(1, 1);
        farm.pass(1);
        Check.due("roads do not matter any more", 2, farm.count(10));
        craneIs(farm, 10, 0, -1);
    }

    private static void waitsForTheBlade() {
        CraneCampaign farm = allBroken(2);
        farm.set(1, 20);
        farm.set(5, 9);
        farm.plan(0, 0);
        farm.pass(2);
        Check.due("no blade is ordered", 8, farm.claims(2));
        farm.orderBlade(1);
        farm.pass(2);
        Check.due("a blade for another turbine", 3 * 8, farm.claims(2));
        farm.orderBlade(0);
        farm.set(0, 5);
        farm.pass(1);
        Check.due("a tonne is left, and the wind is not asked for", 4 * 8, farm.claims(2));
        Check.due("the weight", 1, farm.blade(1, 1));
        Check.due("no hour of waiting for the wind", 0, farm.claims(3));
        farm.set(0, 25);
        farm.pass(1);
        Check.due("the blade is unloaded", 4 * 8, farm.claims(2));
        Check.due("an hour of work", 1, farm.count(10));
    }

    private static void waitsForTheWind() {
        CraneCampaign farm = Farms.readyToServe(4);
        farm.pass(1);
        Farms.winds(farm, "13");
        Check.due("the limit", 12, farm.turbine(0, 5));
        farm.pass(1);
        claimsAre(farm, 0, 8, 0, 12, 0);
        Check.due("no work", 0, farm.count(10));
        Check.due("the blade stays", 1, farm.count(13));
        Farms.winds(farm, "12");
        farm.pass(1);
        claimsAre(farm, 0, 8, 0, 12, 12);
        farm.set(0, 15);
        farm.pass(1);
        claimsAre(farm, 0, 8, 0, 24, 12);
        Check.due("the work of before stays", 1, farm.count(10));
        farm.addTurbine(20, 160, 12);
        Farms.winds(farm, "0");
        farm.set(0, 5);
        farm.setFault(1, 1);
        farm.orderBlade(1);
        farm.plan(1, 0);
        farm.pass(3);
        Check.due("the limit", -1, farm.turbine(1, 5));
        Check.due("the blade is unloaded", 1, farm.turbine(1, 7));
        Check.due("a limit below 0 is below each wind: no work", 0, farm.count(10));
    }

    private static void hourOfWork() {
        int[][] works = {{1, 1}, {1, 4}, {3, 2}, {12, 4}};
        for (int[] row : works) {
            CraneCampaign farm = Farms.readyToServe(row[1]);
            farm.set(2, row[0]);
            farm.set(3, 200);
            int hours = row[0] * row[1];
            farm.pass(1);
            for (int hour = 1; hour < hours; hour++) {
                farm.pass(1);
                Check.due("hours of work", hour, farm.count(10));
            }
            Check.due("the fault before the last hour", row[1], farm.turbine(0, 3));
            Check.due("the blade before the last hour", 1, farm.count(13));
            Check.due("the plan before the last hour", 1, farm.count(5));
            Check.due("the last hour loses all of the power", 8, farm.pass(1));
            Check.due("all hours of work", 8 * hours, farm.claims(4));
            for (int count : new int[] {1, 5, 10, 13}) {
                Check.due("count(" + count + ") behind the last hour", 0, farm.count(count));
            }
            Check.due("the age behind the last hour", 0, farm.turbine(0, 4));
        }
        moreWorkThanNeeded();
        bladeThatIsUsed();
    }

    private static void moreWorkThanNeeded() {
        CraneCampaign farm = Farms.readyToServe(4);
        farm.pass(1 + 11);
        farm.setFault(0, 1);
        Check.due("more hours than 3 * 1 before the hour", 11, farm.count(10));
        Check.due("the fault is there", 1, farm.turbine(0, 3));
        farm.pass(1);
        Check.due("it is gone in the next hour of work", 0, farm.turbine(0, 3));
        farm.setFault(0, 1);
        farm.orderBlade(0);
        farm.plan(0, 0);
        farm.pass(2);
        Check.due("the work began at 0", 2, farm.count(10));
        farm.set(2, 1);
        Farms.winds(farm, "13");
        farm.pass(1);
        Check.due("an hour of waiting ends no work", 1, farm.turbine(0, 3));
    }

    private static void bladeThatIsUsed() {
        CraneCampaign farm = Farms.readyToServe(1);
        farm.addTurbine(20, 50, 12);
        farm.set(2, 1);
        farm.set(5, 10);
        farm.orderBlade(1);
        farm.orderBlade(0);
        farm.orderBlade(1);
        farm.pass(2);
        // Of 0, 1, 0, 1 the first one is used; 10 + 5 + 5 tonnes were unloaded.
        int[][] blades = {{1, 0}, {0, 5}, {1, 5}};
        Check.due("blades left", 3, farm.count(13));
        for (int i = 0; i < 3; i++) {
            Check.due("blade " + i, blades[i][0], farm.blade(i, 0));
            Check.due("its weight", blades[i][1], farm.blade(i, 1));
        }
        farm.setFault(0, 1);
        farm.plan(0, 0);
        farm.pass(1);
        Check.due("the first one for the turbine 0 is used, not the first one", 2, farm.count(13));
        Check.due("the first one is still there", 1, farm.blade(0, 0));
        Check.due("so is the last one", 1, farm.blade(1, 0));
    }

    private static void whoseWorkItIs() {
        CraneCampaign farm = Farms.readyToServe(4);
        farm.addTurbine(20, 50, 12);
        farm.pass(3);
        farm.plan(1, 0);
        Check.due("another one is the first one", 0, farm.count(10));
        farm.plan(0, 0);
        Check.due("no hour began: they are there", 2, farm.count(10));
        farm.unplan(1);
        farm.unplan(0);
        Check.due("0 with an empty plan", 0, farm.count(10));
        farm.pass(100);
        farm.plan(0, 0);
        Check.due("with an empty plan they stay", 2, farm.count(10));
        // The first one is faultless: it is dropped, and the work on the turbine 0 begins anew.
        farm.plan(1, 0);
        farm.pass(1);
        Check.due("a faultless first one makes them 0", 1, farm.count(10));
        farm.setFault(1, 1);
        farm.plan(1, 0);
        farm.pass(1);
        farm.plan(0, 0);
        Check.due("one with a fault makes them 0", 0, farm.count(10));
        anotherTargetAlone();
        workOfTheNextTarget();
    }

    private static void anotherTargetAlone() {
        CraneCampaign farm = Farms.readyToServe(4);
        farm.addTurbine(20, 50, 12);
        farm.setFault(1, 1);
        farm.pass(3);
        Check.due("two hours of work on the turbine 0", 2, farm.count(10));
        farm.unplan(0);
        farm.plan(1, 0);
        farm.pass(1);
        farm.unplan(1);
        farm.plan(0, 0);
        Check.due("another one alone makes them 0", 0, farm.count(10));
        farm.pass(2);
        Check.due("work begins anew behind the hour of moving", 1, farm.count(10));
    }

    private static void workOfTheNextTarget() {
        CraneCampaign farm = Farms.readyToServe(1);
        farm.addTurbine(20, 50, 12);
        farm.setFault(1, 1);
        farm.orderBlade(1);
        farm.plan(1, 1);
        farm.pass(4);
        Check.due("the turbine 1 is the first one", 1, farm.count(6));
        Check.due("no work was done on it", 0, farm.count(10));
        farm.pass(3);
        Check.due("two hours of work on it", 2, farm.count(10));
        farm.pass(1);
        Check.due("it is done in the third", 0, farm.count(1));
    }
}
