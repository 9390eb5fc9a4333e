/** The boundary cases of the promises 15 to 20: turbine, blade, bog, claims, count, setting. */
final class ReadEdges {
    private ReadEdges() {
    }

    static void run() {
        turbine();
        blade();
        bog();
        claims();
        count();
        setting();
    }

    private static void turbine() {
        Edge.of("Promise 15", "turbine: its number", () -> Edge.turbineNumber(Edge.INDEX,
                (farm, turbine) -> farm.turbine(turbine, 0)));
        Edge.of("Promise 15", "what: 0: place; 1: height; 2: rate; 3: fault; 4: age; 5: its limit; 6: its place in "
                + "the plan, NONE if it is not in it; 7: blades for it that are unloaded and not used; 8: what it "
                + "lost so far; 9: what it won so far; 10: its full power with the wind of the next hour", () -> {
            propertiesAtTheEnds();
            placeInThePlan();
            unloadedAndNotUsed();
            windOfTheNextHour();
        });
        Edge.of("Promise 15", "Throws IndexOutOfBoundsException if there is no such turbine", () -> {
            CraneCampaign full = Farms.crowded();
            Check.due("the place of the last of ten", 90, full.turbine(9, 0));
            for (int turbine : new int[] {10, -1, Integer.MIN_VALUE, Integer.MAX_VALUE}) {
                Edge.refused(full, "turbine(" + turbine + ", 0)", Edge.INDEX, () -> full.turbine(turbine, 0));
            }
            CraneCampaign undone = Farms.withOne();
            undone.undo();
            Edge.refused(undone, "a turbine that is undone", Edge.INDEX, () -> undone.turbine(0, 0));
        });
        Edge.of("Promise 15", "Throws IllegalArgumentException if what is not 0 to 10", () -> Edge.range(0, 10,
                Edge.ARGUMENT, Farms::inUse, (farm, what) -> farm.turbine(2, what)));
    }

    private static void propertiesAtTheEnds() {
        CraneCampaign farm = new CraneCampaign();
        farm.addTurbine(1, 50, 1);
        farm.addTurbine(99, 160, 50);
        farm.setFault(1, 4);
        int[][] properties = {{1, 50, 1, 0, 0, 14, -1, 0, 0, 0, 0}, {99, 160, 50, 4, 0, 10, -1, 0, 33, 0, 33}};
        farm.pass(1);
        for (int t = 0; t < 2; t++) {
            for (int what = 0; what <= 10; what++) {
                Check.due("turbine(" + t + ", " + what + ")", properties[t][what], farm.turbine(t, what));
            }
        }
    }

    private static void placeInThePlan() {
        CraneCampaign farm = Farms.crowded();
        // Each turbine t came to the place t / 2: those with odd numbers stand at the beginning.
        int[] places = {9, 0, 8, 1, 7, 2, 6, 3, 5, 4};
        for (int t = 0; t < 10; t++) {
            Check.due("the place of turbine " + t, places[t], farm.turbine(t, 6));
        }
        farm.unplan(9);
        Check.due("no place", -1, farm.turbine(9, 6));
    }

    private static void unloadedAndNotUsed() {
        CraneCampaign farm = Farms.readyToServe(1);
        farm.set(2, 1);
        farm.set(5, 100);
        farm.addTurbine(20, 50, 1);
        for (int i = 0; i < 9; i++) {
            farm.orderBlade(0);
        }
        Check.due("none is unloaded", 0, farm.turbine(0, 7));
        farm.pass(1);
        Check.due("ten are unloaded", 10, farm.turbine(0, 7));
        Check.due("none for the other one", 0, farm.turbine(1, 7));
        farm.pass(1);
        Check.due("one is used", 9, farm.turbine(0, 7));
    }

    private static void windOfTheNextHour() {
        CraneCampaign farm = Farms.withOne();
        Farms.winds(farm, "12,3,26");
        int[] powers = {12, 3, 0, 12, 3, 0, 12};
        for (int power : powers) {
            Check.due("the full power in the hour " + farm.count(2), power, farm.turbine(0, 10));
            farm.pass(1);
        }
    }

    private static void blade() {
        Edge.of("Promise 16", "Returns a property of a blade that is ordered and not used.", () -> {
            CraneCampaign farm = Farms.readyToServe(1);
            farm.set(2, 1);
            farm.addTurbine(20, 50, 1);
            farm.orderBlade(1);
            farm.pass(2);
            Check.due("the used one is not told any more", 1, farm.blade(0, 0));
            Edge.refused(farm, "the one behind it", Edge.INDEX, () -> farm.blade(1, 0));
        });
        Edge.of("Promise 16", "blade: its place in the order in which they were ordered, from 0", () -> {
            CraneCampaign farm = Farms.crowded();
            for (int i = 0; i < 10; i++) {
                Check.due("blade(" + i + ", 0)", 9 - i, farm.blade(i, 0));
            }
        });
        Edge.of("Promise 16", "what: 0: for which turbine; 1: the weight that is left", () -> {
            CraneCampaign farm = Farms.crowded();
            Check.due("the weight of the first one", 158 / 10, farm.blade(0, 1));
            Check.due("the weight of the last one", 50 / 10, farm.blade(9, 1));
            farm.set(5, 15);
            farm.pass(1);
            Check.due("nothing is left of the first one", 0, farm.blade(0, 1));
            Check.due("all is left of the second one", 146 / 10, farm.blade(1, 1));
        });
        Edge.of("Promise 16", "Throws IndexOutOfBoundsException if there is no such blade", () -> {
            CraneCampaign empty = Farms.withOne();
            Edge.refused(empty, "blade(0, 0) without blades", Edge.INDEX, () -> empty.blade(0, 0));
            CraneCampaign full = Farms.crowded();
            for (int blade : new int[] {10, -1, Integer.MIN_VALUE, Integer.MAX_VALUE}) {
                Edge.refused(full, "blade(" + blade + ", 0)", Edge.INDEX, () -> full.blade(blade, 0));
            }
            full.undo();
            full.undo();
            Check.due("nine blades", 9, full.count(13));
            Edge.refused(full, "a blade that is undone", Edge.INDEX, () -> full.blade(9, 0));
        });
        Edge.of("Promise 16", "Throws IllegalArgumentException if what is not 0 or 1", () -> Edge.range(0, 1,
                Edge.ARGUMENT, Farms::inUse, (farm, what) -> farm.blade(1, what)));
    }

    private static void bog() {
        Edge.of("Promise 17", "bog: its number in ascending order of places, from 0", () -> {
            int[][] orders = {{10, 20, 30, 40, 50, 60}, {60, 50, 40, 30, 20, 10}, {30, 60, 10, 50, 20, 40}};
            for (int[] order : orders) {
                CraneCampaign farm = new CraneCampaign();
                for (int place : order) {
                    farm.setBog(place, place / 2);
                }
                for (int i = 0; i < 6; i++) {
                    Check.due("bog(" + i + ", 0)", 10 * i + 10, farm.bog(i, 0));
                    Check.due("bog(" + i + ", 1)", 5 * i + 5, farm.bog(i, 1));
                }
            }
        });
        Edge.of("Promise 17", "what: 0: place; 1: need", () -> {
            int[][] bogs = {{1, 50}, {99, 1}, {1, 1}, {99, 50}};
            for (int[] row : bogs) {
                CraneCampaign farm = new CraneCampaign();
                farm.setBog(row[0], row[1]);
                Check.due("the place", row[0], farm.bog(0, 0));
                Check.due("the need", row[1], farm.bog(0, 1));
            }
        });
        Edge.of("Promise 17", "Throws IndexOutOfBoundsException if there is no such bog", () -> {
            CraneCampaign empty = new CraneCampaign();
            Edge.refused(empty, "bog(0, 0) without bogs", Edge.INDEX, () -> empty.bog(0, 0));
            CraneCampaign full = Farms.crowded();
            for (int bog : new int[] {6, -1, Integer.MIN_VALUE, Integer.MAX_VALUE}) {
                Edge.refused(full, "bog(" + bog + ", 0)", Edge.INDEX, () -> full.bog(bog, 0));
            }
            full.setBog(full.bog(5, 0), 0);
            Edge.refused(full, "a bog that is gone", Edge.INDEX, () -> full.bog(5, 0));
        });
        Edge.of("Promise 17", "Throws IllegalArgumentException if what is not 0 or 1", () -> Edge.range(0, 1,
                Edge.ARGUMENT, Farms::inUse, (farm, what) -> farm.bog(1, what)));
    }

    private static void claims() {
        Edge.of("Promise 18", "cause: 0 to 4", () -> Edge.range(0, 4, Edge.ARGUMENT, Farms::inUse,
                (farm, cause) -> farm.claims(cause)));
        Edge.of("Promise 18", "Returns the power that was lost so far by this cause.", () -> {
            CraneCampaign farm = Farms.inUse();
            farm.pass(200);
            int sum = 0;
            for (int cause = 0; cause < 5; cause++) {
                sum += farm.claims(cause);
            }
            Check.due("all causes together are all power that was lost", farm.count(11), sum);
            Check.due("none on a new object", 0, new CraneCampaign().claims(4));
        });
        Edge.of("Promise 18", "Throws IllegalArgumentException if cause is out of range", () -> {
            CraneCampaign farm = Farms.inUse();
            for (int cause : new int[] {-1, 5, Integer.MIN_VALUE, Integer.MAX_VALUE}) {
                Edge.refused(farm, "claims(" + cause + ")", Edge.ARGUMENT, () -> farm.claims(cause));
            }
        });
    }

    private static void count() {
        Edge.of("Promise 19", "what: 0: turbines; 1: turbines with a fault; 2: number of the hour; 3: the wind of the "
                + "next hour; 4: numbers in the wind row; 5: turbines in the plan; 6: the first one of the plan, NONE "
                + "if it is empty; 7: the place where the crane stands, or from which it set out; 8: hours that are "
                + "left on its way, 0 if it stands; 9: the turbine to which it is on its way, NONE if it stands; 10: "
                + "hours of work done on the first turbine of the plan, 0 if the plan is empty, or they were done on "
                + "another one; 11: power lost so far; 12: power won so far; 13: blades ordered and not used; 14: "
                + "saved states", () -> {
            countsAre(new CraneCampaign(), "0,0,0,8,0,0,-1,0,0,-1,0,0,0,0,0");
            countsAre(Farms.crowded(), "10,10,5,12,48,10,1,0,0,-1,0,0," + (65 + 4 * 275) + ",10,6");
            countsOfTheCrane();
        });
        Edge.of("Promise 19", "Throws IllegalArgumentException if what is not 0 to 14", () -> Edge.range(0, 14,
                Edge.ARGUMENT, Farms::inUse, (farm, what) -> farm.count(what)));
    }

    private static void countsAre(CraneCampaign farm, String due) {
        String got = Farms.counts(farm);
        Check.dueTrue("the counts " + due + ", not " + got + "; it", got.equals(due));
    }

    private static void countsOfTheCrane() {
        CraneCampaign farm = Farms.withTurbines(2);
        farm.setFault(0, 4);
        farm.setFault(1, 4);
        farm.orderBlade(0);
        farm.plan(0, 0);
        countsAre(farm, "2,2,0,8,0,1,0,0,0,-1,0,0,0,1,6");
        farm.pass(1);
        countsAre(farm, "2,2,1,8,0,1,0,0,1,0,0,16,0,1,6");
        farm.pass(1);
        countsAre(farm, "2,2,2,8,0,1,0,10,0,-1,0,32,0,1,6");
        farm.pass(11);
        countsAre(farm, "2,2,13,8,0,1,0,10,0,-1,11,208,0,1,6");
        farm.plan(1, 0);
        countsAre(farm, "2,2,13,8,0,2,1,10,0,-1,0,208,0,1,6");
        farm.unplan(1);
        farm.pass(1);
        countsAre(farm, "2,1,14,8,0,0,-1,10,0,-1,0,224,0,0,6");
    }

    private static void setting() {
        Edge.of("Promise 20", "setting: 0 to 6", () -> Edge.range(0, 6, Edge.INDEX, Farms::inUse,
                (farm, setting) -> farm.setting(setting)));
        Edge.of("Promise 20", "Throws IndexOutOfBoundsException if there is no such setting", () -> {
            CraneCampaign farm = Farms.inUse();
            for (int setting : new int[] {-1, 7, Integer.MIN_VALUE, Integer.MAX_VALUE}) {
                Edge.refused(farm, "setting(" + setting + ")", Edge.INDEX, () -> farm.setting(setting));
            }
        });
    }
}
