/** Farms that several tests begin with, and short ways to ask them. */
final class Farms {
    private Farms() {
    }

    /** One turbine at the place 10, height 100 (limit 12, blades of 10 tonnes), rate 12. */
    static CraneCampaign withOne() {
        CraneCampaign farm = new CraneCampaign();
        farm.addTurbine(10, 100, 12);
        return farm;
    }

    /** Turbines at the places 10, 20, 30 .. with height 100 and rate 12. */
    static CraneCampaign withTurbines(int turbines) {
        CraneCampaign farm = new CraneCampaign();
        for (int i = 0; i < turbines; i++) {
            farm.addTurbine(10 + 9 * i, 100, 12);
        }
        return farm;
    }

    /** A turbine that the crane reaches in the first hour, with a blade that is unloaded then. */
    static CraneCampaign readyToServe(int fault) {
        CraneCampaign farm = withOne();
        farm.set(1, 20);
        farm.setFault(0, fault);
        farm.orderBlade(0);
        farm.plan(0, 0);
        return farm;
    }

    /** At work on the first of three turbines: two have faults, one of two blades is unloaded. */
    static CraneCampaign inUse() {
        CraneCampaign farm = withTurbines(3);
        winds(farm, "8,12,14,5");
        farm.set(5, 3);
        farm.setBog(15, 3);
        farm.setBog(40, 7);
        farm.setFault(0, 1);
        farm.setFault(2, 2);
        farm.orderBlade(0);
        farm.orderBlade(2);
        farm.plan(0, 0);
        farm.plan(2, 1);
        farm.plan(1, 2);
        farm.pass(5);
        write(farm, "9*2,");
        return withRoomForStates(farm);
    }

    /** The same one two hours later, on the way to the last turbine. */
    static CraneCampaign onItsWay() {
        CraneCampaign farm = inUse();
        farm.plan(2, 0);
        farm.pass(2);
        return withRoomForStates(farm);
    }

    /** Leaves three saved states, so that more can be saved without a loss. */
    private static CraneCampaign withRoomForStates(CraneCampaign farm) {
        for (int i = 0; i < 3; i++) {
            farm.setBog(98, 0);
        }
        int more = farm.count(14) - 3;
        for (int i = 0; i < more; i++) {
            farm.undo();
        }
        return farm;
    }

    /** As much of each as there can be: turbines, bogs, blades, winds, states, a plan and a text. */
    static CraneCampaign crowded() {
        CraneCampaign farm = new CraneCampaign();
        winds(farm, "3,12*20,30,0*6,17*20");
        for (int t = 0; t < 10; t++) {
            farm.addTurbine(9 * t + 9, 50 + 12 * t, 5 * t + 5);
        }
        farm.pass(5);
        for (int i = 0; i < 6; i++) {
            farm.setBog(10 + 15 * i, 50 - i);
        }
        for (int t = 0; t < 10; t++) {
            farm.setFault(t, 1 + t % 4);
            farm.orderBlade(9 - t);
            farm.plan(t, t / 2);
        }
        return write(farm, "30*48,30*48,30*48,30*48,30*48,30*48,30*48,30*48,30*48,30*48,");
    }

    static CraneCampaign write(CraneCampaign farm, String text) {
        for (int i = 0; i < text.length(); i++) {
            farm.append(text.charAt(i));
        }
        return farm;
    }

    static int winds(CraneCampaign farm, String text) {
        farm.clearBuffer();
        return write(farm, text).load();
    }

    static String plan(CraneCampaign farm) {
        StringBuilder text = new StringBuilder();
        for (int place = 0; place < farm.count(5); place++) {
            for (int t = 0; t < farm.count(0); t++) {
                if (farm.turbine(t, 6) == place) {
                    text.append(t);
                }
            }
        }
        return text.toString();
    }

    static String counts(CraneCampaign farm) {
        StringBuilder text = new StringBuilder();
        for (int what = 0; what <= 14; what++) {
            text.append(farm.count(what)).append(what < 14 ? "," : "");
        }
        return text.toString();
    }
}
