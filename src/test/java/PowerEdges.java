/** The boundary cases of what happens in an hour: power, causes, ages. */
final class PowerEdges {
    private PowerEdges() {
    }

    static void run() {
        Edge.of("An hour", "Each turbine with a fault (as it was at the beginning of the hour) loses power: all of "
                + "its full power, if this is an hour of work on it, otherwise full power * fault / 4.",
                PowerEdges::whatIsLost);
        Edge.of("An hour", "The cause is: 0: it is not the target; for the target: 1: moving, 2: waiting for the "
                + "blade, 3: waiting for the wind, 4: work.", PowerEdges::causes);
        Edge.of("An hour", "What it does not lose, and the full power of turbines without faults, is won.",
                PowerEdges::whatIsWon);
        Edge.of("An hour", "The age of each turbine with a fault of 1 to 3 increases by 1, if this was not an hour of "
                + "work on it; if it is the worsening or more then, the fault increases by 1, and the age becomes 0.",
                PowerEdges::ages);
        Edge.of("An hour", "The number of the hour increases by 1.", PowerEdges::numberOfTheHour);
    }

    private static void whatIsLost() {
        int[][] losses = {{0, 0}, {1, 1}, {2, 3}, {3, 5}, {4, 7}};
        for (int[] row : losses) {
            CraneCampaign farm = new CraneCampaign();
            farm.addTurbine(1, 50, 7);
            Farms.winds(farm, "12");
            farm.setFault(0, row[0]);
            Check.due("the loss of the full power 7 by the fault " + row[0], row[1], farm.pass(1));
        }
        CraneCampaign calm = Farms.withOne();
        calm.setFault(0, 4);
        Farms.winds(calm, "2,3,25,26");
        int[] lost = {0, 3, 12, 0};
        for (int power : lost) {
            Check.due("no more than the full power", power, calm.pass(1));
        }
        lossesOfWork();
        faultOfTheBeginning();
    }

    private static void lossesOfWork() {
        CraneCampaign farm = Farms.readyToServe(1);
        int[] lost = {2, 8, 8, 8, 0};
        for (int hour = 0; hour < lost.length; hour++) {
            Check.due("the loss of the hour " + hour, lost[hour], farm.pass(1));
        }
        CraneCampaign two = Farms.readyToServe(1);
        two.addTurbine(20, 50, 12);
        two.setFault(1, 1);
        two.pass(1);
        Check.due("an hour of work on the other one", 8 + 2, two.pass(1));
    }

    private static void faultOfTheBeginning() {
        CraneCampaign farm = Farms.withOne();
        farm.set(3, 1);
        farm.setFault(0, 1);
        int[] lost = {2, 4, 6, 8, 8};
        for (int hour = 0; hour < lost.length; hour++) {
            Check.due("the loss of the hour " + hour + " as the fault grows", lost[hour], farm.pass(1));
        }
    }

    private static void causes() {
        CraneCampaign farm = Farms.withTurbines(2);
        farm.setFault(0, 2);
        farm.setFault(1, 4);
        farm.set(1, 10);
        // Without a plan; moving; waiting for the blade, for the wind; work.
        int[][] claims = {{12, 0, 0, 0, 0}, {20, 4, 0, 0, 0}, {28, 4, 4, 0, 0}, {36, 4, 4, 4, 0}, {44, 4, 4, 4, 8}};
        for (int hour = 0; hour < 5; hour++) {
            farm.pass(1);
            for (int cause = 0; cause < 5; cause++) {
                Check.due("claims(" + cause + ") after " + (hour + 1), claims[hour][cause], farm.claims(cause));
            }
            if (hour == 0) {
                farm.plan(0, 0);
                farm.plan(1, 1);
            } else if (hour == 2) {
                farm.orderBlade(0);
                farm.set(0, 11);
            } else {
                farm.set(0, 12);
            }
        }
    }

    private static void whatIsWon() {
        CraneCampaign farm = Farms.withTurbines(5);
        for (int t = 0; t < 5; t++) {
            farm.setFault(t, t);
        }
        int[] won = {12, 9, 6, 3, 0};
        Farms.winds(farm, "12,26");
        farm.pass(2);
        for (int t = 0; t < 5; t++) {
            Check.due("won by the turbine with the fault " + t, won[t], farm.turbine(t, 9));
            Check.due("lost by the turbine with the fault " + t, 12 - won[t], farm.turbine(t, 8));
        }
        Check.due("won by all", 30, farm.count(12));
        Check.due("lost by all", 30, farm.count(11));
        CraneCampaign atWork = Farms.readyToServe(1);
        atWork.pass(1);
        Check.due("won on the way", 6, atWork.count(12));
        atWork.pass(1);
        Check.due("nothing is won in an hour of work", 6, atWork.count(12));
    }

    private static void faultAndAge(CraneCampaign farm, int fault, int age) {
        Check.due("the fault in the hour " + farm.count(2), fault, farm.turbine(0, 3));
        Check.due("the age in the hour " + farm.count(2), age, farm.turbine(0, 4));
    }

    private static void ages() {
        CraneCampaign farm = Farms.withOne();
        farm.pass(200);
        faultAndAge(farm, 0, 0);
        farm.set(3, 200);
        farm.setFault(0, 1);
        for (int fault = 1; fault < 4; fault++) {
            farm.pass(199);
            faultAndAge(farm, fault, 199);
            farm.pass(1);
            faultAndAge(farm, fault + 1, 0);
        }
        farm.pass(200);
        faultAndAge(farm, 4, 0);
        worseningOfAnHour();
        worseningBelowTheAge();
        noAgeByWork();
    }

    private static void worseningOfAnHour() {
        CraneCampaign farm = Farms.withOne();
        farm.set(3, 1);
        farm.setFault(0, 1);
        for (int fault = 2; fault <= 4; fault++) {
            farm.pass(1);
            faultAndAge(farm, fault, 0);
        }
        farm.pass(1);
        faultAndAge(farm, 4, 0);
    }

    private static void worseningBelowTheAge() {
        CraneCampaign farm = Farms.withOne();
        farm.set(3, 200);
        farm.setFault(0, 1);
        farm.pass(100);
        farm.set(3, 2);
        faultAndAge(farm, 1, 100);
        farm.pass(1);
        faultAndAge(farm, 2, 0);
    }

    private static void noAgeByWork() {
        CraneCampaign farm = Farms.readyToServe(2);
        farm.addTurbine(20, 50, 12);
        farm.setFault(1, 1);
        farm.set(3, 2);
        farm.pass(1);
        faultAndAge(farm, 2, 1);
        farm.pass(1);
        faultAndAge(farm, 2, 1);
        Check.due("the fault of the other one grows", 2, farm.turbine(1, 3));
        farm.set(0, 5);
        farm.pass(1);
        faultAndAge(farm, 3, 0);
        Check.due("the age of the other one grows", 1, farm.turbine(1, 4));
    }

    private static void numberOfTheHour() {
        CraneCampaign farm = new CraneCampaign();
        Check.due("the number of the first hour", 0, farm.count(2));
        farm.pass(1);
        Check.due("the number of the second hour", 1, farm.count(2));
        farm.pass(200);
        Check.due("the number after 201 hours", 201, farm.count(2));
        farm.undo();
        Check.due("the number after undo", 1, farm.count(2));
    }
}
