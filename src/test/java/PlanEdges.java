/** The boundary cases of the promises 6 to 9: plan, unplan, orderBlade, pass. */
final class PlanEdges {
    private PlanEdges() {
    }

    static void run() {
        plan();
        unplan();
        orderBlade();
        pass();
    }

    private static CraneCampaign planned(int turbines) {
        CraneCampaign farm = Farms.withTurbines(10);
        for (int t = 0; t < turbines; t++) {
            farm.plan(t, t);
        }
        return farm;
    }

    private static void plan() {
        Edge.of("Promise 6", "Puts a turbine into the plan, or moves it there.", PlanEdges::eachPlaceOfThePlan);
        Edge.of("Promise 6", "Undoable.", () -> {
            Edge.undoable(farm -> farm.plan(2, 0));
            CraneCampaign farm = Farms.inUse();
            farm.unplan(1);
            farm.plan(1, 0);
            Check.dueTrue("it is in the plan", Farms.plan(farm).equals("102"));
            farm.undo();
            Check.dueTrue("it is not any more", Farms.plan(farm).equals("02"));
        });
        Edge.of("Promise 6", "turbine: its number", () -> Edge.turbineNumber(Edge.INDEX,
                (farm, turbine) -> farm.plan(turbine, 0)));
        Edge.of("Promise 6", "place: its place in the plan then, from 0", () -> {
            for (int place = 0; place <= 4; place++) {
                CraneCampaign farm = planned(4);
                farm.plan(7, place);
                Check.due("the place of a new one", place, farm.turbine(7, 6));
            }
        });
        Edge.of("Promise 6", "Returns how many turbines are in the plan then.", () -> {
            CraneCampaign farm = planned(0);
            for (int t = 0; t < 10; t++) {
                Check.due("turbines in the plan", t + 1, farm.plan(t, 0));
                Check.due("as it is moved", t + 1, farm.plan(t, t));
            }
        });
        Edge.of("Promise 6", "Throws IndexOutOfBoundsException if there is no such turbine, or place is negative or "
                + "more than the number of the other turbines in the plan", PlanEdges::noSuchPlace);
    }

    private static void eachPlaceOfThePlan() {
        for (int turbine = 0; turbine < 5; turbine++) {
            for (int place = 0; place < 5; place++) {
                StringBuilder due = new StringBuilder("01234");
                due.deleteCharAt(turbine);
                due.insert(place, turbine);
                CraneCampaign farm = planned(5);
                farm.plan(turbine, place);
                Check.dueTrue(due + " is the plan, not " + Farms.plan(farm) + "; it",
                        Farms.plan(farm).equals(due.toString()));
            }
        }
        CraneCampaign full = planned(10);
        full.plan(9, 0);
        Check.dueTrue("the last of ten is the first one", Farms.plan(full).equals("9012345678"));
        full.plan(9, 9);
        Check.dueTrue("it is the last one again", Farms.plan(full).equals("0123456789"));
    }

    private static void noSuchPlace() {
        CraneCampaign farm = planned(3);
        int[][] wrong = {{5, 4}, {5, -1}, {2, 3}, {0, 3}, {0, -1}, {10, 0}, {-1, 0}, {5, Integer.MAX_VALUE},
            {5, Integer.MIN_VALUE}, {Integer.MAX_VALUE, 0}, {Integer.MIN_VALUE, 0}};
        for (int[] row : wrong) {
            Edge.refused(farm, "plan(" + row[0] + ", " + row[1] + ")", Edge.INDEX, () -> farm.plan(row[0], row[1]));
        }
        Check.due("as many as the others, for one that is in it", 3, farm.plan(0, 2));
        Check.due("as many as the others, for one that is not in it", 4, farm.plan(5, 3));
        CraneCampaign empty = planned(0);
        Edge.refused(empty, "plan(0, 1) with an empty plan", Edge.INDEX, () -> empty.plan(0, 1));
        empty.plan(0, 0);
        Edge.refused(empty, "plan(0, 1) with itself alone", Edge.INDEX, () -> empty.plan(0, 1));
        CraneCampaign full = planned(10);
        Edge.refused(full, "plan(9, 10) with a full plan", Edge.INDEX, () -> full.plan(9, 10));
    }

    private static void unplan() {
        Edge.of("Promise 7", "Takes a turbine off the plan.", () -> {
            for (int turbine = 0; turbine < 5; turbine++) {
                CraneCampaign farm = planned(5);
                farm.unplan(turbine);
                String due = new StringBuilder("01234").deleteCharAt(turbine).toString();
                Check.dueTrue(due + " is the plan", Farms.plan(farm).equals(due));
                Check.due("it has no place", -1, farm.turbine(turbine, 6));
            }
            CraneCampaign full = planned(10);
            for (int turbine = 9; turbine >= 0; turbine--) {
                full.unplan(turbine);
                Check.due("turbines in the plan", turbine, full.count(5));
            }
        });
        Edge.of("Promise 7", "Undoable.", () -> Edge.undoable(farm -> farm.unplan(0)));
        Edge.of("Promise 7", "turbine: its number", () -> Edge.turbineNumber(Edge.INDEX,
                (farm, turbine) -> farm.unplan(turbine)));
        Edge.of("Promise 7", "Returns the place that it had in it.", () -> {
            int[] places = {0, 8, 4, 5, 0};
            int[] turbines = {0, 9, 5, 7, 1};
            CraneCampaign farm = planned(10);
            for (int i = 0; i < 5; i++) {
                Check.due("the place of " + turbines[i], places[i], farm.unplan(turbines[i]));
            }
        });
        Edge.of("Promise 7", "Throws IndexOutOfBoundsException if there is no such turbine", () -> {
            CraneCampaign full = Farms.crowded();
            Edge.refused(full, "unplan(10)", Edge.INDEX, () -> full.unplan(10));
            Edge.refused(full, "unplan(-1)", Edge.INDEX, () -> full.unplan(-1));
        });
        Edge.of("Promise 7", "Throws IllegalStateException if it is not in the plan", () -> {
            CraneCampaign empty = planned(0);
            Edge.refused(empty, "unplan(0) with an empty plan", Edge.STATE, () -> empty.unplan(0));
            CraneCampaign farm = planned(2);
            Edge.refused(farm, "unplan(2)", Edge.STATE, () -> farm.unplan(2));
            farm.unplan(1);
            Edge.refused(farm, "unplan(1) again", Edge.STATE, () -> farm.unplan(1));
            farm.unplan(0);
            Edge.refused(farm, "unplan(0) again", Edge.STATE, () -> farm.unplan(0));
            CraneCampaign dropped = planned(1);
            dropped.pass(1);
            Edge.refused(dropped, "a turbine that the hour took off", Edge.STATE, () -> dropped.unplan(0));
        });
    }

    private static void orderBlade() {
        Edge.of("Promise 8", "Undoable.", () -> Edge.undoable(farm -> farm.orderBlade(1)));
        Edge.of("Promise 8", "turbine: for which turbine", () -> {
            Edge.turbineNumber(Edge.INDEX, (farm, turbine) -> farm.orderBlade(turbine));
            CraneCampaign farm = Farms.withTurbines(3);
            for (int turbine = 0; turbine < 3; turbine++) {
                farm.orderBlade(turbine);
                Check.due("for which one", turbine, farm.blade(turbine, 0));
            }
        });
        Edge.of("Promise 8", "Returns how many blades are ordered and not used then.", () -> {
            CraneCampaign farm = Farms.readyToServe(1);
            farm.set(2, 1);
            Check.due("the second one", 2, farm.orderBlade(0));
            farm.pass(2);
            Check.due("one is used", 2, farm.orderBlade(0));
        });
        Edge.of("Promise 8", "Throws IndexOutOfBoundsException if there is no such turbine", () -> {
            CraneCampaign full = Farms.crowded();
            Edge.refused(full, "orderBlade(10)", Edge.INDEX, () -> full.orderBlade(10));
            Edge.refused(full, "orderBlade(-1)", Edge.INDEX, () -> full.orderBlade(-1));
        });
        Edge.of("Promise 8", "Throws IllegalStateException if there are 10", () -> {
            CraneCampaign farm = Farms.withOne();
            for (int i = 1; i <= 10; i++) {
                Check.due("blades", i, farm.orderBlade(0));
            }
            Edge.refused(farm, "the eleventh", Edge.STATE, () -> farm.orderBlade(0));
            farm.pass(200);
            Edge.refused(farm, "the eleventh, as all are unloaded", Edge.STATE, () -> farm.orderBlade(0));
        });
    }

    private static CraneCampaign atTheHour(int hour) {
        CraneCampaign farm = Farms.withOne();
        farm.setFault(0, 4);
        int left = hour;
        for (; left > 200; left -= 200) {
            farm.pass(200);
        }
        farm.pass(left);
        return farm;
    }

    private static void pass() {
        Edge.of("Promise 9", "Undoable, as one call.", () -> {
            Edge.undoable(farm -> farm.pass(200));
            Edge.undoable(farm -> farm.pass(1));
        });
        Edge.of("Promise 9", "hours: 1 to 200", () -> Edge.range(1, 200, Edge.ARGUMENT, Farms::inUse,
                (farm, hours) -> farm.pass(hours)));
        Edge.of("Promise 9", "Returns how much power is lost in them.", () -> {
            Check.due("without turbines", 0, new CraneCampaign().pass(200));
            CraneCampaign farm = Farms.withOne();
            Check.due("without a fault", 0, farm.pass(200));
            farm.setFault(0, 4);
            Check.due("an hour", 8, farm.pass(1));
            Check.due("only in these hours", 1600, farm.pass(200));
            CraneCampaign most = new CraneCampaign();
            Farms.winds(most, "12");
            for (int t = 0; t < 10; t++) {
                most.addTurbine(99 - t, 50, 50);
                most.setFault(t, 4);
            }
            Check.due("the most of all", 100000, most.pass(200));
        });
        Edge.of("Promise 9", "Throws IllegalArgumentException if hours is out of range", () -> {
            CraneCampaign farm = atTheHour(9999);
            for (int hours : new int[] {0, -1, 201, Integer.MIN_VALUE, Integer.MAX_VALUE}) {
                Edge.refused(farm, "pass(" + hours + ")", Edge.ARGUMENT, () -> farm.pass(hours));
            }
        });
        Edge.of("Promise 9", "Throws IllegalStateException if the number of the hour would be above 10000", () -> {
            CraneCampaign farm = atTheHour(9799);
            Check.due("200 hours are too few for it", 1600, farm.pass(200));
            Check.due("the hour", 9999, farm.count(2));
            Edge.refused(farm, "pass(2)", Edge.STATE, () -> farm.pass(2));
            Edge.refused(farm, "pass(200)", Edge.STATE, () -> farm.pass(200));
            Check.due("pass(1)", 8, farm.pass(1));
            Check.due("the last hour", 10000, farm.count(2));
            Edge.refused(farm, "pass(1) in the last hour", Edge.STATE, () -> farm.pass(1));
            farm.undo();
            farm.undo();
            Check.due("the hour after undo", 9799, farm.count(2));
            CraneCampaign later = atTheHour(9801);
            Edge.refused(later, "pass(200) at 9801", Edge.STATE, () -> later.pass(200));
            later.pass(199);
            Check.due("the last hour", 10000, later.count(2));
        });
    }
}
