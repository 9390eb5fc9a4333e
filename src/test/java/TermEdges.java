/** The boundary cases of the document's terms: numbers, turbines, settings, winds, roads and the harbour. */
final class TermEdges {
    private TermEdges() {
    }

    static void run() {
        Edge.of("What it is", "An object is used for at most 512 calls after it has been made; what later calls "
                + "answer is free.", TermEdges::allCallsOfAnObject);
        Edge.of("Terms", "All numbers are integers; divisions are rounded down.", TermEdges::roundedDown);
        Edge.of("Turbines", "There are at most 10 turbines, numbered from 0 in the order in which they came.",
                TermEdges::tenTurbines);
        Edge.of("Turbines", "A turbine has a place, 1 to 99 (no two have the same), a height, 50 to 160, a rate, "
                + "1 to 50, a fault, 0 to 4 (0: none), and an age, at first 0.", TermEdges::whatATurbineHas);
        Edge.of("Turbines", "There are these settings: 0: the wind limit, 5 to 25, at first 16; 1: the speed of the "
                + "crane, 1 to 20 places in an hour, at first 5; 2: the work, 1 to 12 hours for each degree of a "
                + "fault, at first 3; 3: the worsening, 1 to 200 hours, at first 24; 4: the bog time, 0 to 10 hours, "
                + "at first 2; 5: the lift of the harbour, 1 to 100 tonnes in an hour, at first 10; 6: the mats, "
                + "0 to 50, at first 0.", TermEdges::settings);
        Edge.of("Turbines", "The limit of a turbine is the wind limit minus height / 25.", TermEdges::limits);
        Edge.of("Turbines", "The wind is told by a row of 0 to 48 numbers, 0 to 30: in the hour h (from 0 on) it is "
                + "the number h modulo their count; without numbers it is 8.", TermEdges::windRow);
        Edge.of("Turbines", "The full power of a turbine in an hour with the wind w is 0 if w is less than 3 or "
                + "greater than 25, otherwise rate * (the lesser one of w and 12) / 12.", TermEdges::fullPower);
        Edge.of("Turbines", "There are at most 6 bogs; a bog has a place, 1 to 99 (no two the same), and a need of "
                + "mats, 1 to 50.", TermEdges::sixBogs);
        Edge.of("Turbines", "There is one crane, at first at the place 0 (the harbour).", TermEdges::craneAtFirst);
        Edge.of("Turbines", "To move from one place to another one takes (distance + speed - 1) / speed hours, and "
                + "the bog time more for each bog whose place is between both (neither of them) and that needs more "
                + "mats than there are.", TermEdges::hoursOfAWay);
        Edge.of("Turbines", "The plan is a row of turbines, each one at most once; the crane serves the first one "
                + "of it, its target.", TermEdges::planOfTurbines);
        Edge.of("The harbour", "Blades lie in ships, in the order in which they were ordered; at most 10 are ordered "
                + "and not used.", TermEdges::tenBlades);
        Edge.of("The harbour", "A blade is ordered for a turbine and weighs height / 10 tonnes at first.",
                TermEdges::weightOfABlade);
        Edge.of("The harbour", "In each hour as many tonnes as the lift tells are unloaded: from the first blade "
                + "that is not unloaded yet, then from the next one.", TermEdges::tonnesOfAnHour);
        Edge.of("The harbour", "A blade of which no weight is left is unloaded.", TermEdges::unloadedBlade);
    }

    private static CraneCampaign withTurbine(int place, int height, int rate) {
        CraneCampaign farm = new CraneCampaign();
        farm.addTurbine(place, height, rate);
        return farm;
    }

    private static void allCallsOfAnObject() {
        CraneCampaign farm = new CraneCampaign();
        for (int call = 1; call <= 510; call++) {
            farm.set(6, call % 51);
        }
        Check.due("call 511", 0, farm.setting(6));
        Check.due("call 512", 5, farm.undo());
        CraneCampaign crowded = Farms.crowded();
        long first = crowded.digest();
        for (int i = 0; i < 250; i++) {
            Check.due("the dearest call again", first, crowded.digest());
        }
    }

    private static void roundedDown() {
        CraneCampaign farm = withTurbine(10, 99, 7);
        Check.due("the limit 16 - 99 / 25", 13, farm.turbine(0, 5));
        farm.orderBlade(0);
        Check.due("the weight 99 / 10", 9, farm.blade(0, 1));
        Farms.winds(farm, "11");
        Check.due("the full power 77 / 12", 6, farm.turbine(0, 10));
        farm.setFault(0, 3);
        Check.due("the loss 6 * 3 / 4", 4, farm.pass(1));
        Check.due("the win is the rest", 2, farm.turbine(0, 9));
        Check.due("the way of (9 + 4) / 5 hours", 2, farm.way(0, 9));
        Check.due("the way of (10 + 4) / 5 hours", 2, farm.way(0, 10));
        Check.due("the way of (11 + 4) / 5 hours", 3, farm.way(0, 11));
    }

    private static void tenTurbines() {
        CraneCampaign farm = new CraneCampaign();
        for (int i = 0; i < 10; i++) {
            Check.due("the number of turbine " + i, i, farm.addTurbine(99 - i, 50 + i, 1 + i));
        }
        Edge.refused(farm, "the turbine 11", Edge.STATE, () -> farm.addTurbine(1, 50, 1));
        for (int i = 0; i < 10; i++) {
            Check.due("the place of turbine " + i, 99 - i, farm.turbine(i, 0));
        }
        farm.undo();
        Check.due("the number 9 is free again", 9, farm.addTurbine(1, 160, 50));
        Check.due("its place", 1, farm.turbine(9, 0));
        Check.due("ten turbines", 10, farm.count(0));
    }

    private static void whatATurbineHas() {
        int[][] right = {{1, 50, 1}, {99, 50, 1}, {1, 160, 1}, {1, 50, 50}, {99, 160, 50}};
        for (int[] row : right) {
            CraneCampaign farm = withTurbine(row[0], row[1], row[2]);
            for (int what = 0; what < 3; what++) {
                Check.due("turbine(0, " + what + ")", row[what], farm.turbine(0, what));
            }
            Check.due("the fault at first", 0, farm.turbine(0, 3));
            Check.due("the age at first", 0, farm.turbine(0, 4));
        }
        int[][] wrong = {{0, 50, 1}, {100, 50, 1}, {1, 49, 1}, {1, 161, 1}, {1, 50, 0}, {1, 50, 51}};
        CraneCampaign farm = new CraneCampaign();
        for (int[] row : wrong) {
            Edge.refused(farm, "addTurbine", Edge.ARGUMENT, () -> farm.addTurbine(row[0], row[1], row[2]));
        }
        farm.addTurbine(1, 50, 1);
        Edge.refused(farm, "a second turbine at this place", Edge.STATE, () -> farm.addTurbine(1, 160, 50));
        Check.due("a turbine beside it", 1, farm.addTurbine(2, 50, 1));
        Edge.refused(farm, "the fault 5", Edge.ARGUMENT, () -> farm.setFault(0, 5));
        Edge.refused(farm, "the fault -1", Edge.ARGUMENT, () -> farm.setFault(0, -1));
        farm.setFault(0, 4);
        Check.due("one with a fault", 1, farm.count(1));
        farm.setFault(0, 0);
        Check.due("the fault 0 is none", 0, farm.count(1));
    }

    private static void settings() {
        int[][] ranges = {{16, 5, 25}, {5, 1, 20}, {3, 1, 12}, {24, 1, 200}, {2, 0, 10}, {10, 1, 100}, {0, 0, 50}};
        for (int setting = 0; setting < 7; setting++) {
            int number = setting;
            int[] range = ranges[setting];
            Check.due("setting " + setting + " at first", range[0], new CraneCampaign().setting(setting));
            Edge.range(range[1], range[2], Edge.ARGUMENT, CraneCampaign::new, (farm, value) -> farm.set(number, value));
            CraneCampaign farm = new CraneCampaign();
            farm.set(setting, range[1]);
            Check.due("the lowest value of setting " + setting, range[1], farm.setting(setting));
            farm.set(setting, range[2]);
            Check.due("the highest value of setting " + setting, range[2], farm.setting(setting));
            for (int other = 0; other < 7; other++) {
                Check.due("setting " + other, other == setting ? range[2] : ranges[other][0], farm.setting(other));
            }
        }
    }

    private static void limits() {
        int[][] minus = {{50, 2}, {74, 2}, {75, 3}, {99, 3}, {100, 4}, {124, 4}, {125, 5}, {149, 5}, {150, 6}, {160, 6}};
        for (int[] row : minus) {
            CraneCampaign farm = withTurbine(1, row[0], 1);
            Check.due("the limit at the height " + row[0], 16 - row[1], farm.turbine(0, 5));
            farm.set(0, 5);
            Check.due("the limit with the wind limit 5", 5 - row[1], farm.turbine(0, 5));
            farm.set(0, 25);
            Check.due("the limit with the wind limit 25", 25 - row[1], farm.turbine(0, 5));
        }
    }

    private static void windRow() {
        CraneCampaign farm = new CraneCampaign();
        Check.due("no numbers", 0, farm.count(4));
        for (int hour = 0; hour < 3; hour++) {
            Check.due("the wind without numbers", 8, farm.count(3));
            farm.pass(1);
        }
        Farms.winds(farm, "0");
        Check.due("the wind of one number in the hour 3", 0, farm.count(3));
        Farms.winds(farm, "1,2,3,4");
        Check.due("the wind of four numbers in the hour 3", 4, farm.count(3));
        farm.pass(1);
        Check.due("the wind of four numbers in the hour 4", 1, farm.count(3));
        Edge.refused(Farms.write(farm, "31"), "the number 31", Edge.ARGUMENT, () -> farm.load());
        farm.clearBuffer();
        Edge.refused(Farms.write(farm, "5*47,6,7"), "a row of 49 numbers", Edge.STATE, () -> farm.load());
        farm.undo();
        farm.undo();
        farm.undo();
        Check.due("the wind without numbers again", 8, farm.count(3));
        longestWindRow();
    }

    private static void longestWindRow() {
        CraneCampaign farm = new CraneCampaign();
        Check.due("a row of 48 numbers", 48, Farms.winds(farm, "30,5*46,7"));
        for (int hour = 0; hour < 97; hour++) {
            int number = hour % 48;
            Check.due("the wind in the hour " + hour, number == 0 ? 30 : number == 47 ? 7 : 5, farm.count(3));
            farm.pass(1);
        }
    }

    private static void fullPower() {
        int[] winds = {0, 2, 3, 11, 12, 13, 25, 26, 30};
        int[][] powers = {
            {1, 0, 0, 0, 0, 1, 1, 1, 0, 0},
            {7, 0, 0, 1, 6, 7, 7, 7, 0, 0},
            {50, 0, 0, 12, 45, 50, 50, 50, 0, 0},
        };
        for (int[] row : powers) {
            CraneCampaign farm = withTurbine(1, 50, row[0]);
            for (int i = 0; i < winds.length; i++) {
                Farms.winds(farm, "" + winds[i]);
                Check.due("the full power of the rate " + row[0] + " with the wind " + winds[i], row[i + 1],
                        farm.turbine(0, 10));
                int won = farm.count(12);
                farm.pass(1);
                Check.due("it is won", won + row[i + 1], farm.count(12));
            }
        }
    }

    private static void sixBogs() {
        CraneCampaign farm = new CraneCampaign();
        int[] places = {99, 1, 50, 49, 51, 2};
        for (int i = 0; i < 6; i++) {
            Check.due("bogs", i + 1, farm.setBog(places[i], i == 0 ? 50 : 1));
        }
        Edge.refused(farm, "a seventh bog", Edge.STATE, () -> farm.setBog(3, 1));
        Check.due("no second one at the place 99", 6, farm.setBog(99, 1));
        Check.due("its new need", 1, farm.bog(5, 1));
        Check.due("one is gone", 5, farm.setBog(50, 0));
        int[][] wrong = {{0, 1}, {100, 1}, {3, 51}, {3, -1}};
        for (int[] row : wrong) {
            Edge.refused(farm, "setBog(" + row[0] + ", " + row[1] + ")", Edge.ARGUMENT,
                    () -> farm.setBog(row[0], row[1]));
        }
        Check.due("the sixth again", 6, farm.setBog(3, 50));
    }

    private static void craneAtFirst() {
        CraneCampaign farm = Farms.withOne();
        Check.due("the place at first", 0, farm.count(7));
        Check.due("no hours are left", 0, farm.count(8));
        Check.due("it is on no way", -1, farm.count(9));
        farm.pass(200);
        Check.due("the place without a plan", 0, farm.count(7));
    }

    private static void hoursOfAWay() {
        // Speed, from, to, hours; without bogs.
        int[][] ways = {{1, 0, 99, 99}, {20, 99, 0, 5}, {20, 0, 20, 1}, {20, 0, 21, 2}, {20, 0, 1, 1}, {5, 7, 7, 0},
            {5, 0, 5, 1}, {5, 0, 6, 2}, {5, 6, 0, 2}, {20, 0, 0, 0}};
        for (int[] row : ways) {
            CraneCampaign farm = new CraneCampaign();
            farm.set(1, row[0]);
            Check.due("way(" + row[1] + ", " + row[2] + ")", row[3], farm.way(row[1], row[2]));
        }
        bogsOnTheWay();
    }

    private static void bogsOnTheWay() {
        CraneCampaign farm = new CraneCampaign();
        farm.setBog(20, 5);
        int[][] ways = {{19, 21, 3}, {21, 19, 3}, {20, 25, 1}, {25, 20, 1}, {15, 20, 1}, {20, 15, 1}, {20, 20, 0},
            {15, 19, 1}, {21, 25, 1}};
        for (int[] row : ways) {
            Check.due("way(" + row[0] + ", " + row[1] + ")", row[2], farm.way(row[0], row[1]));
        }
        farm.set(6, 4);
        Check.due("a mat too few", 3, farm.way(19, 21));
        farm.set(6, 5);
        Check.due("as many mats as it needs", 1, farm.way(19, 21));
        farm.set(6, 0);
        farm.set(4, 0);
        Check.due("the bog time 0", 1, farm.way(19, 21));
        farm.set(4, 10);
        for (int place = 21; place <= 25; place++) {
            farm.setBog(place, 50);
        }
        Check.due("six bogs of 10 hours", 60 + 2, farm.way(19, 26));
        farm.set(6, 50);
        Check.due("with all mats", 2, farm.way(19, 26));
    }

    private static void planOfTurbines() {
        CraneCampaign farm = Farms.withTurbines(2);
        farm.plan(0, 0);
        Check.due("the turbine 0 once more", 1, farm.plan(0, 0));
        farm.plan(1, 0);
        Check.due("the turbine 0 once more, elsewhere", 2, farm.plan(0, 0));
        Check.dueTrue("01 is the plan", Farms.plan(farm).equals("01"));
        farm.setFault(0, 4);
        farm.setFault(1, 4);
        farm.pass(1);
        Check.due("it is on its way to the first one", 0, farm.count(9));
        farm.plan(0, 1);
        farm.pass(1);
        Check.due("it is on its way to the new first one", 1, farm.count(9));
    }

    private static void tenBlades() {
        CraneCampaign farm = Farms.readyToServe(1);
        farm.addTurbine(20, 50, 1);
        farm.set(2, 1);
        for (int i = 2; i <= 10; i++) {
            Check.due("blades", i, farm.orderBlade(i % 2));
        }
        Edge.refused(farm, "the blade 11", Edge.STATE, () -> farm.orderBlade(1));
        for (int i = 0; i < 10; i++) {
            Check.due("blade " + i, i == 0 ? 0 : (i + 1) % 2, farm.blade(i, 0));
        }
        farm.pass(2);
        Check.due("one is used", 9, farm.count(13));
        Check.due("there is room for one", 10, farm.orderBlade(1));
        Edge.refused(farm, "the blade 11 again", Edge.STATE, () -> farm.orderBlade(0));
    }

    private static void weightOfABlade() {
        int[][] weights = {{50, 5}, {59, 5}, {60, 6}, {99, 9}, {100, 10}, {159, 15}, {160, 16}};
        for (int[] row : weights) {
            CraneCampaign farm = withTurbine(1, row[0], 1);
            farm.orderBlade(0);
            Check.due("the weight at the height " + row[0], row[1], farm.blade(0, 1));
        }
        CraneCampaign two = withTurbine(1, 50, 1);
        two.addTurbine(2, 160, 1);
        two.orderBlade(1);
        Check.due("it is for the turbine 1", 1, two.blade(0, 0));
        Check.due("its weight is that of the turbine 1", 16, two.blade(0, 1));
    }

    private static void weightsAre(CraneCampaign farm, int... weights) {
        for (int i = 0; i < weights.length; i++) {
            Check.due("the weight of blade " + i, weights[i], farm.blade(i, 1));
        }
    }

    private static void tonnesOfAnHour() {
        CraneCampaign farm = withTurbine(1, 50, 1);
        farm.set(5, 4);
        farm.orderBlade(0);
        farm.orderBlade(0);
        farm.orderBlade(0);
        int[][] weights = {{1, 5, 5}, {0, 2, 5}, {0, 0, 3}, {0, 0, 0}, {0, 0, 0}};
        for (int[] row : weights) {
            farm.pass(1);
            weightsAre(farm, row);
        }
        CraneCampaign most = withTurbine(1, 160, 1);
        for (int i = 0; i < 10; i++) {
            most.orderBlade(0);
        }
        most.set(5, 100);
        most.pass(1);
        weightsAre(most, 0, 0, 0, 0, 0, 0, 12, 16, 16, 16);
        most.set(5, 1);
        most.pass(1);
        weightsAre(most, 0, 0, 0, 0, 0, 0, 11, 16, 16, 16);
        most.set(5, 11);
        most.pass(1);
        weightsAre(most, 0, 0, 0, 0, 0, 0, 0, 16, 16, 16);
        most.set(5, 17);
        most.pass(1);
        weightsAre(most, 0, 0, 0, 0, 0, 0, 0, 0, 15, 16);
    }

    private static void unloadedBlade() {
        CraneCampaign farm = withTurbine(1, 50, 1);
        farm.set(5, 4);
        farm.orderBlade(0);
        Check.due("unloaded with all of the weight", 0, farm.turbine(0, 7));
        farm.pass(1);
        Check.due("the weight", 1, farm.blade(0, 1));
        Check.due("unloaded with a tonne", 0, farm.turbine(0, 7));
        farm.pass(1);
        Check.due("the weight then", 0, farm.blade(0, 1));
        Check.due("unloaded without weight", 1, farm.turbine(0, 7));
        Check.due("it is not used yet", 1, farm.count(13));
    }
}
